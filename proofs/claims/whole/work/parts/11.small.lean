def sX10_begin_S (S : St)  : St := (sI (sI (sI (sI S 0 4 1000000) 0 5 0) 0 6 1000000) 0 7 500)
set_option maxHeartbeats 4000000 in
set_option maxRecDepth 100000 in
theorem c_X10_begin (l : Launch) (D : va_G) (cc : Nat → ClassId) (ad : Nat → Nat) (S : St) : CtV l D cc yX10_begin cX10_begin 1 0 [.ref (ad 1)] (LW cc ad S) (LW cc ad (sX10_begin_S S )) := by
  refine CtV.of (plainFor_of_name (by decide +kernel)) (Nat.le_of_ble_eq_true rfl) ?_
  intro p e s m args below meth c A Q hC hW hend ls hl
  obtain ⟨⟨hx, hb, hml, hown, hts⟩, hNW⟩ := id hC
  have hl : lv_has ls 1 [(0, .ref (ad 1))] := hl
  refine lv_aload_n hx hb dX10_begin_0 rfl (lv_at hl 0 rfl) ?_
  refine q_ldc hC nX10_9 dX10_begin_1 ?_
  refine q_putI hC hW kX10_10 1 (Lg1 cc ad S) (Ls1_0 cc ad S 1000000) (Nat.le_of_ble_eq_true rfl) dX10_begin_3 (fun H locs hW => ?_)
  refine lv_aload_n hx hb dX10_begin_6 rfl (lv_at hl 0 rfl) ?_
  refine lv_iconst (v := 0) hx hb dX10_begin_7 (by decide) ?_
  refine q_putI hC hW kX10_16 1 (Lg1 cc ad (sI S 0 4 1000000)) (Ls1_1 cc ad (sI S 0 4 1000000) 0) (Nat.le_of_ble_eq_true rfl) dX10_begin_8 (fun H locs hW => ?_)
  refine lv_aload_n hx hb dX10_begin_11 rfl (lv_at hl 0 rfl) ?_
  refine q_ldc hC nX10_9 dX10_begin_12 ?_
  refine q_putI hC hW kX10_19 1 (Lg1 cc ad (sI (sI S 0 4 1000000) 0 5 0)) (Ls1_2 cc ad (sI (sI S 0 4 1000000) 0 5 0) 1000000) (Nat.le_of_ble_eq_true rfl) dX10_begin_14 (fun H locs hW => ?_)
  refine lv_aload_n hx hb dX10_begin_17 rfl (lv_at hl 0 rfl) ?_
  refine lv_sipush (v := 500) hx hb dX10_begin_18 (by decide) ?_
  refine q_putI hC hW kX10_22 1 (Lg1 cc ad (sI (sI (sI S 0 4 1000000) 0 5 0) 0 6 1000000)) (Ls1_3 cc ad (sI (sI (sI S 0 4 1000000) 0 5 0) 0 6 1000000) 500) (Nat.le_of_ble_eq_true rfl) dX10_begin_21 (fun H locs hW => ?_)
  exact hend _ _ _ _ _ (by unfold sX10_begin_S; rfl) hW dX10_begin_24
def sX10_changeStiffness (S : St) (x : Int32) (y : Int32) : Int32 := (if (S.1 0 4) = x then (if (S.1 0 5) = y then 0 else 1) else 1)
def sX10_changeStiffness_S (S : St) (x : Int32) (y : Int32) : St := (sI (sI S 0 4 x) 0 5 y)
set_option maxHeartbeats 4000000 in
set_option maxRecDepth 100000 in
theorem c_X10_changeStiffness (l : Launch) (D : va_G) (cc : Nat → ClassId) (ad : Nat → Nat) (S : St) (x : Int32) (y : Int32) : CtI l D cc yX10_changeStiffness cX10_changeStiffness 4 .int 0 [.ref (ad 1), .int x, .int y] (LW cc ad S) (sX10_changeStiffness S x y) (LW cc ad (sX10_changeStiffness_S S x y)) := by
  refine CtI.of (plainFor_of_name (by decide +kernel)) rfl (Nat.le_of_ble_eq_true rfl) ?_
  intro p e s m args below meth c A Q hC hW hend ls hl
  obtain ⟨⟨hx, hb, hml, hown, hts⟩, hNW⟩ := id hC
  have hl : lv_has ls 4 [(0, .ref (ad 1)), (1, .int x), (2, .int y)] := hl
  refine lv_aload_n hx hb dX10_changeStiffness_0 rfl (lv_at hl 0 rfl) ?_
  refine q_get hC hW kX10_10 1 (Lg1 cc ad S) (v := .int (S.1 0 4)) rfl dX10_changeStiffness_1 ?_
  refine lv_iload_n hx hb dX10_changeStiffness_4 rfl (lv_at hl 1 rfl) ?_
  refine lv_icmp_ne (tgt := 16) hx hb dX10_changeStiffness_5 (by decide) (fun c_5 => ?_) (fun c_5 => ?_)
  · skip
    refine lv_iconst (v := 1) hx hb dX10_changeStiffness_16 (by decide) ?_
    refine lv_goto (tgt := 21) hx hb dX10_changeStiffness_17 (by decide) ?_
    refine lv_istore_n (lv' := [(3, .int 1), (0, .ref (ad 1)), (1, .int x), (2, .int y)]) hx hb dX10_changeStiffness_21 rfl hl (by decide) rfl (fun ls hl => ?_)
    refine lv_aload_n hx hb dX10_changeStiffness_22 rfl (lv_at hl 1 rfl) ?_
    refine lv_iload_n hx hb dX10_changeStiffness_23 rfl (lv_at hl 2 rfl) ?_
    refine q_putI hC hW kX10_10 1 (Lg1 cc ad S) (Ls1_0 cc ad S x) (Nat.le_of_ble_eq_true rfl) dX10_changeStiffness_24 (fun H locs hW => ?_)
    refine lv_aload_n hx hb dX10_changeStiffness_27 rfl (lv_at hl 1 rfl) ?_
    refine lv_iload_n hx hb dX10_changeStiffness_28 rfl (lv_at hl 3 rfl) ?_
    refine q_putI hC hW kX10_16 1 (Lg1 cc ad (sI S 0 4 x)) (Ls1_1 cc ad (sI S 0 4 x) y) (Nat.le_of_ble_eq_true rfl) dX10_changeStiffness_29 (fun H locs hW => ?_)
    refine lv_iload_n hx hb dX10_changeStiffness_32 rfl (lv_at hl 0 rfl) ?_
    exact hend _ _ _ _ _ _ (by simp only [sX10_changeStiffness, if_neg c_5]) (by simp only [sX10_changeStiffness_S, if_neg c_5]) hW dX10_changeStiffness_33
  · skip
    refine lv_aload_n hx hb dX10_changeStiffness_8 rfl (lv_at hl 0 rfl) ?_
    refine q_get hC hW kX10_16 1 (Lg1 cc ad S) (v := .int (S.1 0 5)) rfl dX10_changeStiffness_9 ?_
    refine lv_iload_n hx hb dX10_changeStiffness_12 rfl (lv_at hl 2 rfl) ?_
    refine lv_icmp_eq (tgt := 20) hx hb dX10_changeStiffness_13 (by decide) (fun c_13 => ?_) (fun c_13 => ?_)
    · skip
      refine lv_iconst (v := 0) hx hb dX10_changeStiffness_20 (by decide) ?_
      refine lv_istore_n (lv' := [(3, .int 0), (0, .ref (ad 1)), (1, .int x), (2, .int y)]) hx hb dX10_changeStiffness_21 rfl hl (by decide) rfl (fun ls hl => ?_)
      refine lv_aload_n hx hb dX10_changeStiffness_22 rfl (lv_at hl 1 rfl) ?_
      refine lv_iload_n hx hb dX10_changeStiffness_23 rfl (lv_at hl 2 rfl) ?_
      refine q_putI hC hW kX10_10 1 (Lg1 cc ad S) (Ls1_0 cc ad S x) (Nat.le_of_ble_eq_true rfl) dX10_changeStiffness_24 (fun H locs hW => ?_)
      refine lv_aload_n hx hb dX10_changeStiffness_27 rfl (lv_at hl 1 rfl) ?_
      refine lv_iload_n hx hb dX10_changeStiffness_28 rfl (lv_at hl 3 rfl) ?_
      refine q_putI hC hW kX10_16 1 (Lg1 cc ad (sI S 0 4 x)) (Ls1_1 cc ad (sI S 0 4 x) y) (Nat.le_of_ble_eq_true rfl) dX10_changeStiffness_29 (fun H locs hW => ?_)
      refine lv_iload_n hx hb dX10_changeStiffness_32 rfl (lv_at hl 0 rfl) ?_
      exact hend _ _ _ _ _ _ (by simp only [sX10_changeStiffness, if_pos c_5, if_pos c_13]) (by simp only [sX10_changeStiffness_S, if_pos c_5, if_pos c_13]) hW dX10_changeStiffness_33
    · skip
      refine lv_iconst (v := 1) hx hb dX10_changeStiffness_16 (by decide) ?_
      refine lv_goto (tgt := 21) hx hb dX10_changeStiffness_17 (by decide) ?_
      refine lv_istore_n (lv' := [(3, .int 1), (0, .ref (ad 1)), (1, .int x), (2, .int y)]) hx hb dX10_changeStiffness_21 rfl hl (by decide) rfl (fun ls hl => ?_)
      refine lv_aload_n hx hb dX10_changeStiffness_22 rfl (lv_at hl 1 rfl) ?_
      refine lv_iload_n hx hb dX10_changeStiffness_23 rfl (lv_at hl 2 rfl) ?_
      refine q_putI hC hW kX10_10 1 (Lg1 cc ad S) (Ls1_0 cc ad S x) (Nat.le_of_ble_eq_true rfl) dX10_changeStiffness_24 (fun H locs hW => ?_)
      refine lv_aload_n hx hb dX10_changeStiffness_27 rfl (lv_at hl 1 rfl) ?_
      refine lv_iload_n hx hb dX10_changeStiffness_28 rfl (lv_at hl 3 rfl) ?_
      refine q_putI hC hW kX10_16 1 (Lg1 cc ad (sI S 0 4 x)) (Ls1_1 cc ad (sI S 0 4 x) y) (Nat.le_of_ble_eq_true rfl) dX10_changeStiffness_29 (fun H locs hW => ?_)
      refine lv_iload_n hx hb dX10_changeStiffness_32 rfl (lv_at hl 0 rfl) ?_
      exact hend _ _ _ _ _ _ (by simp only [sX10_changeStiffness, if_pos c_5, if_neg c_13]) (by simp only [sX10_changeStiffness_S, if_pos c_5, if_neg c_13]) hW dX10_changeStiffness_33
def sX10_changeStrength (S : St) (x : Int32) (y : Int32) : Int32 := (if (S.1 0 6) = x then (if (S.1 0 7) = y then 0 else 1) else 1)
def sX10_changeStrength_S (S : St) (x : Int32) (y : Int32) : St := (sI (sI S 0 6 x) 0 7 y)
set_option maxHeartbeats 4000000 in
set_option maxRecDepth 100000 in
theorem c_X10_changeStrength (l : Launch) (D : va_G) (cc : Nat → ClassId) (ad : Nat → Nat) (S : St) (x : Int32) (y : Int32) : CtI l D cc yX10_changeStrength cX10_changeStrength 4 .int 0 [.ref (ad 1), .int x, .int y] (LW cc ad S) (sX10_changeStrength S x y) (LW cc ad (sX10_changeStrength_S S x y)) := by
  refine CtI.of (plainFor_of_name (by decide +kernel)) rfl (Nat.le_of_ble_eq_true rfl) ?_
  intro p e s m args below meth c A Q hC hW hend ls hl
  obtain ⟨⟨hx, hb, hml, hown, hts⟩, hNW⟩ := id hC
  have hl : lv_has ls 4 [(0, .ref (ad 1)), (1, .int x), (2, .int y)] := hl
  refine lv_aload_n hx hb dX10_changeStrength_0 rfl (lv_at hl 0 rfl) ?_
  refine q_get hC hW kX10_19 1 (Lg1 cc ad S) (v := .int (S.1 0 6)) rfl dX10_changeStrength_1 ?_
  refine lv_iload_n hx hb dX10_changeStrength_4 rfl (lv_at hl 1 rfl) ?_
  refine lv_icmp_ne (tgt := 16) hx hb dX10_changeStrength_5 (by decide) (fun c_5 => ?_) (fun c_5 => ?_)
  · skip
    refine lv_iconst (v := 1) hx hb dX10_changeStrength_16 (by decide) ?_
    refine lv_goto (tgt := 21) hx hb dX10_changeStrength_17 (by decide) ?_
    refine lv_istore_n (lv' := [(3, .int 1), (0, .ref (ad 1)), (1, .int x), (2, .int y)]) hx hb dX10_changeStrength_21 rfl hl (by decide) rfl (fun ls hl => ?_)
    refine lv_aload_n hx hb dX10_changeStrength_22 rfl (lv_at hl 1 rfl) ?_
    refine lv_iload_n hx hb dX10_changeStrength_23 rfl (lv_at hl 2 rfl) ?_
    refine q_putI hC hW kX10_19 1 (Lg1 cc ad S) (Ls1_2 cc ad S x) (Nat.le_of_ble_eq_true rfl) dX10_changeStrength_24 (fun H locs hW => ?_)
    refine lv_aload_n hx hb dX10_changeStrength_27 rfl (lv_at hl 1 rfl) ?_
    refine lv_iload_n hx hb dX10_changeStrength_28 rfl (lv_at hl 3 rfl) ?_
    refine q_putI hC hW kX10_22 1 (Lg1 cc ad (sI S 0 6 x)) (Ls1_3 cc ad (sI S 0 6 x) y) (Nat.le_of_ble_eq_true rfl) dX10_changeStrength_29 (fun H locs hW => ?_)
    refine lv_iload_n hx hb dX10_changeStrength_32 rfl (lv_at hl 0 rfl) ?_
    exact hend _ _ _ _ _ _ (by simp only [sX10_changeStrength, if_neg c_5]) (by simp only [sX10_changeStrength_S, if_neg c_5]) hW dX10_changeStrength_33
  · skip
    refine lv_aload_n hx hb dX10_changeStrength_8 rfl (lv_at hl 0 rfl) ?_
    refine q_get hC hW kX10_22 1 (Lg1 cc ad S) (v := .int (S.1 0 7)) rfl dX10_changeStrength_9 ?_
    refine lv_iload_n hx hb dX10_changeStrength_12 rfl (lv_at hl 2 rfl) ?_
    refine lv_icmp_eq (tgt := 20) hx hb dX10_changeStrength_13 (by decide) (fun c_13 => ?_) (fun c_13 => ?_)
    · skip
      refine lv_iconst (v := 0) hx hb dX10_changeStrength_20 (by decide) ?_
      refine lv_istore_n (lv' := [(3, .int 0), (0, .ref (ad 1)), (1, .int x), (2, .int y)]) hx hb dX10_changeStrength_21 rfl hl (by decide) rfl (fun ls hl => ?_)
      refine lv_aload_n hx hb dX10_changeStrength_22 rfl (lv_at hl 1 rfl) ?_
      refine lv_iload_n hx hb dX10_changeStrength_23 rfl (lv_at hl 2 rfl) ?_
      refine q_putI hC hW kX10_19 1 (Lg1 cc ad S) (Ls1_2 cc ad S x) (Nat.le_of_ble_eq_true rfl) dX10_changeStrength_24 (fun H locs hW => ?_)
      refine lv_aload_n hx hb dX10_changeStrength_27 rfl (lv_at hl 1 rfl) ?_
      refine lv_iload_n hx hb dX10_changeStrength_28 rfl (lv_at hl 3 rfl) ?_
      refine q_putI hC hW kX10_22 1 (Lg1 cc ad (sI S 0 6 x)) (Ls1_3 cc ad (sI S 0 6 x) y) (Nat.le_of_ble_eq_true rfl) dX10_changeStrength_29 (fun H locs hW => ?_)
      refine lv_iload_n hx hb dX10_changeStrength_32 rfl (lv_at hl 0 rfl) ?_
      exact hend _ _ _ _ _ _ (by simp only [sX10_changeStrength, if_pos c_5, if_pos c_13]) (by simp only [sX10_changeStrength_S, if_pos c_5, if_pos c_13]) hW dX10_changeStrength_33
    · skip
      refine lv_iconst (v := 1) hx hb dX10_changeStrength_16 (by decide) ?_
      refine lv_goto (tgt := 21) hx hb dX10_changeStrength_17 (by decide) ?_
      refine lv_istore_n (lv' := [(3, .int 1), (0, .ref (ad 1)), (1, .int x), (2, .int y)]) hx hb dX10_changeStrength_21 rfl hl (by decide) rfl (fun ls hl => ?_)
      refine lv_aload_n hx hb dX10_changeStrength_22 rfl (lv_at hl 1 rfl) ?_
      refine lv_iload_n hx hb dX10_changeStrength_23 rfl (lv_at hl 2 rfl) ?_
      refine q_putI hC hW kX10_19 1 (Lg1 cc ad S) (Ls1_2 cc ad S x) (Nat.le_of_ble_eq_true rfl) dX10_changeStrength_24 (fun H locs hW => ?_)
      refine lv_aload_n hx hb dX10_changeStrength_27 rfl (lv_at hl 1 rfl) ?_
      refine lv_iload_n hx hb dX10_changeStrength_28 rfl (lv_at hl 3 rfl) ?_
      refine q_putI hC hW kX10_22 1 (Lg1 cc ad (sI S 0 6 x)) (Ls1_3 cc ad (sI S 0 6 x) y) (Nat.le_of_ble_eq_true rfl) dX10_changeStrength_29 (fun H locs hW => ?_)
      refine lv_iload_n hx hb dX10_changeStrength_32 rfl (lv_at hl 0 rfl) ?_
      exact hend _ _ _ _ _ _ (by simp only [sX10_changeStrength, if_pos c_5, if_neg c_13]) (by simp only [sX10_changeStrength_S, if_pos c_5, if_neg c_13]) hW dX10_changeStrength_33
def sX10_strengthWith (S : St) (x : Int32) : Int64 := (if x = 0 then ((S.1 0 6).toInt64) else (sJ9_floorDiv_f86c9 (((S.1 0 6).toInt64) * ((S.1 0 7).toInt64)) 1000))
set_option maxHeartbeats 4000000 in
set_option maxRecDepth 100000 in
theorem c_X10_strengthWith (l : Launch) (D : va_G) (cc : Nat → ClassId) (ad : Nat → Nat) (S : St) (x : Int32) : CtL l D cc yX10_strengthWith cX10_strengthWith 2 1 [.ref (ad 1), .int x] (LW cc ad S) (sX10_strengthWith S x) (LW cc ad S) := by
  refine CtL.of (plainFor_of_name (by decide +kernel)) (Nat.le_of_ble_eq_true rfl) ?_
  intro p e s m args below meth c A Q hC hW hend ls hl
  obtain ⟨⟨hx, hb, hml, hown, hts⟩, hNW⟩ := id hC
  have hl : lv_has ls 2 [(0, .ref (ad 1)), (1, .int x)] := hl
  refine lv_iload_n hx hb dX10_strengthWith_0 rfl (lv_at hl 1 rfl) ?_
  refine lv_if_ne (tgt := 12) hx hb dX10_strengthWith_1 (by decide) (fun c_1 => ?_) (fun c_1 => ?_)
  · skip
    refine lv_aload_n hx hb dX10_strengthWith_12 rfl (lv_at hl 0 rfl) ?_
    refine q_get hC hW kX10_19 1 (Lg1 cc ad S) (v := .int (S.1 0 6)) rfl dX10_strengthWith_13 ?_
    refine lv_i2l hx hb dX10_strengthWith_16 rfl ?_
    refine lv_aload_n hx hb dX10_strengthWith_17 rfl (lv_at hl 0 rfl) ?_
    refine q_get hC hW kX10_22 1 (Lg1 cc ad S) (v := .int (S.1 0 7)) rfl dX10_strengthWith_18 ?_
    refine lv_i2l hx hb dX10_strengthWith_21 rfl ?_
    refine lv_lmul hx hb dX10_strengthWith_22 ?_
    refine q_ldc2 hC nX10_25 dX10_strengthWith_23 ?_
    refine q_SL hC hW (c_J9_floorDiv_f86c9 l D cc _ (((S.1 0 6).toInt64) * ((S.1 0 7).toInt64)) 1000 (by decide)) mX10_27 (by decide) rfl hl.1 rfl (Nat.le_of_ble_eq_true rfl) (by decide) dX10_strengthWith_26 (fun H locs hW => ?_)
    exact hend _ _ _ _ _ _ (by simp only [sX10_strengthWith, if_neg c_1]) rfl hW dX10_strengthWith_29
  · skip
    refine lv_aload_n hx hb dX10_strengthWith_4 rfl (lv_at hl 0 rfl) ?_
    refine q_get hC hW kX10_19 1 (Lg1 cc ad S) (v := .int (S.1 0 6)) rfl dX10_strengthWith_5 ?_
    refine lv_i2l hx hb dX10_strengthWith_8 rfl ?_
    refine lv_goto (tgt := 29) hx hb dX10_strengthWith_9 (by decide) ?_
    exact hend _ _ _ _ _ _ (by simp only [sX10_strengthWith, if_pos c_1]) rfl hW dX10_strengthWith_29
def sX10_steadyTensionAt (S : St) (x : Int64) (y : Int64) : Int64 := (sJ9_max_f86c9 0 (sX11_quotient (((((S.1 0 4).toInt64) + ((S.1 0 5).toInt64)) * x) - (((S.1 0 4).toInt64) * y)) y))
set_option maxHeartbeats 4000000 in
set_option maxRecDepth 100000 in
theorem c_X10_steadyTensionAt (l : Launch) (D : va_G) (cc : Nat → ClassId) (ad : Nat → Nat) (S : St) (x : Int64) (y : Int64) : CtL l D cc yX10_steadyTensionAt cX10_steadyTensionAt 7 2 [.ref (ad 1), .long x, .long y] (LW cc ad S) (sX10_steadyTensionAt S x y) (LW cc ad S) := by
  refine CtL.of (plainFor_of_name (by decide +kernel)) (Nat.le_of_ble_eq_true rfl) ?_
  intro p e s m args below meth c A Q hC hW hend ls hl
  obtain ⟨⟨hx, hb, hml, hown, hts⟩, hNW⟩ := id hC
  have hl : lv_has ls 7 [(0, .ref (ad 1)), (1, .long x), (3, .long y)] := hl
  refine lv_aload_n hx hb dX10_steadyTensionAt_0 rfl (lv_at hl 0 rfl) ?_
  refine q_get hC hW kX10_10 1 (Lg1 cc ad S) (v := .int (S.1 0 4)) rfl dX10_steadyTensionAt_1 ?_
  refine lv_i2l hx hb dX10_steadyTensionAt_4 rfl ?_
  refine lv_aload_n hx hb dX10_steadyTensionAt_5 rfl (lv_at hl 0 rfl) ?_
  refine q_get hC hW kX10_16 1 (Lg1 cc ad S) (v := .int (S.1 0 5)) rfl dX10_steadyTensionAt_6 ?_
  refine lv_i2l hx hb dX10_steadyTensionAt_9 rfl ?_
  refine lv_ladd hx hb dX10_steadyTensionAt_10 ?_
  refine lv_lload_n hx hb dX10_steadyTensionAt_11 rfl (lv_at hl 1 rfl) ?_
  refine lv_lmul hx hb dX10_steadyTensionAt_12 ?_
  refine lv_aload_n hx hb dX10_steadyTensionAt_13 rfl (lv_at hl 0 rfl) ?_
  refine q_get hC hW kX10_10 1 (Lg1 cc ad S) (v := .int (S.1 0 4)) rfl dX10_steadyTensionAt_14 ?_
  refine lv_i2l hx hb dX10_steadyTensionAt_17 rfl ?_
  refine lv_lload_n hx hb dX10_steadyTensionAt_18 rfl (lv_at hl 2 rfl) ?_
  refine lv_lmul hx hb dX10_steadyTensionAt_19 ?_
  refine lv_lsub hx hb dX10_steadyTensionAt_20 ?_
  refine lv_lstore (lv' := [(5, .long (((((S.1 0 4).toInt64) + ((S.1 0 5).toInt64)) * x) - (((S.1 0 4).toInt64) * y))), (0, .ref (ad 1)), (1, .long x), (3, .long y)]) hx hb dX10_steadyTensionAt_21 hl (by decide) rfl (fun ls hl => ?_)
  refine lv_lconst (v := 0) hx hb dX10_steadyTensionAt_23 rfl ?_
  refine lv_lload hx hb dX10_steadyTensionAt_24 (lv_at hl 0 rfl) ?_
  refine lv_lload_n hx hb dX10_steadyTensionAt_26 rfl (lv_at hl 3 rfl) ?_
  refine q_SL hC hW (c_X11_quotient l D cc _ (((((S.1 0 4).toInt64) + ((S.1 0 5).toInt64)) * x) - (((S.1 0 4).toInt64) * y)) y) mX10_33 (by decide) rfl hl.1 rfl (Nat.le_of_ble_eq_true rfl) (by decide) dX10_steadyTensionAt_27 (fun H locs hW => ?_)
  refine q_SL hC hW (c_J9_max_f86c9 l D cc _ 0 (sX11_quotient (((((S.1 0 4).toInt64) + ((S.1 0 5).toInt64)) * x) - (((S.1 0 4).toInt64) * y)) y)) mX10_36 (by decide) rfl hl.1 rfl (Nat.le_of_ble_eq_true rfl) (by decide) dX10_steadyTensionAt_30 (fun H locs hW => ?_)
  exact hend _ _ _ _ _ _ (by unfold sX10_steadyTensionAt; rfl) rfl hW dX10_steadyTensionAt_33
def sX10_steadyGap (S : St) (w : Int32) (x : Int64) (y : Int64) : Int64 := (sJ9_abs_067f4 ((sX10_steadyTensionAt S x y) - (w.toInt64)))
set_option maxHeartbeats 4000000 in
set_option maxRecDepth 100000 in
theorem c_X10_steadyGap (l : Launch) (D : va_G) (cc : Nat → ClassId) (ad : Nat → Nat) (S : St) (w : Int32) (x : Int64) (y : Int64) : CtL l D cc yX10_steadyGap cX10_steadyGap 6 3 [.ref (ad 1), .int w, .long x, .long y] (LW cc ad S) (sX10_steadyGap S w x y) (LW cc ad S) := by
  refine CtL.of (plainFor_of_name (by decide +kernel)) (Nat.le_of_ble_eq_true rfl) ?_
  intro p e s m args below meth c A Q hC hW hend ls hl
  obtain ⟨⟨hx, hb, hml, hown, hts⟩, hNW⟩ := id hC
  have hl : lv_has ls 6 [(0, .ref (ad 1)), (1, .int w), (2, .long x), (4, .long y)] := hl
  refine lv_aload_n hx hb dX10_steadyGap_0 rfl (lv_at hl 0 rfl) ?_
  refine lv_lload_n hx hb dX10_steadyGap_1 rfl (lv_at hl 2 rfl) ?_
  refine lv_lload hx hb dX10_steadyGap_2 (lv_at hl 3 rfl) ?_
  refine q_VL hC hW (c_X10_steadyTensionAt l D cc ad S x y) mX10_39 1 (Lg1 cc ad S) rfl (by decide) rfl hl.1 rfl (Nat.le_of_ble_eq_true rfl) (by decide) dX10_steadyGap_4 (fun H locs hW => ?_)
  refine lv_iload_n hx hb dX10_steadyGap_7 rfl (lv_at hl 1 rfl) ?_
  refine lv_i2l hx hb dX10_steadyGap_8 rfl ?_
  refine lv_lsub hx hb dX10_steadyGap_9 ?_
  refine q_SL hC hW (c_J9_abs_067f4 l D cc _ ((sX10_steadyTensionAt S x y) - (w.toInt64))) mX10_42 (by decide) rfl hl.1 rfl (Nat.le_of_ble_eq_true rfl) (by decide) dX10_steadyGap_10 (fun H locs hW => ?_)
  exact hend _ _ _ _ _ _ (by unfold sX10_steadyGap; rfl) rfl hW dX10_steadyGap_13
def sX1_begin_S (S : St)  : St := (sI (sI (sI (sI (sI S 0 8 0) 0 9 0) 0 10 100) 0 11 1000) 0 12 0)
set_option maxHeartbeats 4000000 in
set_option maxRecDepth 100000 in
theorem c_X1_begin (l : Launch) (D : va_G) (cc : Nat → ClassId) (ad : Nat → Nat) (S : St) : CtV l D cc yX1_begin cX1_begin 1 0 [.ref (ad 2)] (LW cc ad S) (LW cc ad (sX1_begin_S S )) := by
  refine CtV.of (plainFor_of_name (by decide +kernel)) (Nat.le_of_ble_eq_true rfl) ?_
  intro p e s m args below meth c A Q hC hW hend ls hl
  obtain ⟨⟨hx, hb, hml, hown, hts⟩, hNW⟩ := id hC
  have hl : lv_has ls 1 [(0, .ref (ad 2))] := hl
  refine lv_aload_n hx hb dX1_begin_0 rfl (lv_at hl 0 rfl) ?_
  refine lv_iconst (v := 0) hx hb dX1_begin_1 (by decide) ?_
  refine q_putI hC hW kX1_7 2 (Lg2 cc ad S) (Ls2_0 cc ad S 0) (Nat.le_of_ble_eq_true rfl) dX1_begin_2 (fun H locs hW => ?_)
  refine lv_aload_n hx hb dX1_begin_5 rfl (lv_at hl 0 rfl) ?_
  refine lv_iconst (v := 0) hx hb dX1_begin_6 (by decide) ?_
  refine q_putI hC hW kX1_13 2 (Lg2 cc ad (sI S 0 8 0)) (Ls2_1 cc ad (sI S 0 8 0) 0) (Nat.le_of_ble_eq_true rfl) dX1_begin_7 (fun H locs hW => ?_)
  refine lv_aload_n hx hb dX1_begin_10 rfl (lv_at hl 0 rfl) ?_
  refine lv_bipush (v := 100) hx hb dX1_begin_11 (by decide) ?_
  refine q_putI hC hW kX1_16 2 (Lg2 cc ad (sI (sI S 0 8 0) 0 9 0)) (Ls2_2 cc ad (sI (sI S 0 8 0) 0 9 0) 100) (Nat.le_of_ble_eq_true rfl) dX1_begin_13 (fun H locs hW => ?_)
  refine lv_aload_n hx hb dX1_begin_16 rfl (lv_at hl 0 rfl) ?_
  refine lv_sipush (v := 1000) hx hb dX1_begin_17 (by decide) ?_
  refine q_putI hC hW kX1_19 2 (Lg2 cc ad (sI (sI (sI S 0 8 0) 0 9 0) 0 10 100)) (Ls2_3 cc ad (sI (sI (sI S 0 8 0) 0 9 0) 0 10 100) 1000) (Nat.le_of_ble_eq_true rfl) dX1_begin_20 (fun H locs hW => ?_)
  refine lv_aload_n hx hb dX1_begin_23 rfl (lv_at hl 0 rfl) ?_
  refine lv_iconst (v := 0) hx hb dX1_begin_24 (by decide) ?_
  refine q_putI hC hW kX1_22 2 (Lg2 cc ad (sI (sI (sI (sI S 0 8 0) 0 9 0) 0 10 100) 0 11 1000)) (Ls2_4 cc ad (sI (sI (sI (sI S 0 8 0) 0 9 0) 0 10 100) 0 11 1000) 0) (Nat.le_of_ble_eq_true rfl) dX1_begin_25 (fun H locs hW => ?_)
  exact hend _ _ _ _ _ (by unfold sX1_begin_S; rfl) hW dX1_begin_28
def sX1_changeTarget (S : St) (x : Int32) (y : Int32) : Int32 := (if (S.1 0 9) = x then (if (S.1 0 10) = y then 0 else 1) else 1)
def sX1_changeTarget_S (S : St) (x : Int32) (y : Int32) : St := (sI (sI S 0 9 x) 0 10 y)
set_option maxHeartbeats 4000000 in
set_option maxRecDepth 100000 in
theorem c_X1_changeTarget (l : Launch) (D : va_G) (cc : Nat → ClassId) (ad : Nat → Nat) (S : St) (x : Int32) (y : Int32) : CtI l D cc yX1_changeTarget cX1_changeTarget 4 .int 0 [.ref (ad 2), .int x, .int y] (LW cc ad S) (sX1_changeTarget S x y) (LW cc ad (sX1_changeTarget_S S x y)) := by
  refine CtI.of (plainFor_of_name (by decide +kernel)) rfl (Nat.le_of_ble_eq_true rfl) ?_
  intro p e s m args below meth c A Q hC hW hend ls hl
  obtain ⟨⟨hx, hb, hml, hown, hts⟩, hNW⟩ := id hC
  have hl : lv_has ls 4 [(0, .ref (ad 2)), (1, .int x), (2, .int y)] := hl
  refine lv_aload_n hx hb dX1_changeTarget_0 rfl (lv_at hl 0 rfl) ?_
  refine q_get hC hW kX1_13 2 (Lg2 cc ad S) (v := .int (S.1 0 9)) rfl dX1_changeTarget_1 ?_
  refine lv_iload_n hx hb dX1_changeTarget_4 rfl (lv_at hl 1 rfl) ?_
  refine lv_icmp_ne (tgt := 16) hx hb dX1_changeTarget_5 (by decide) (fun c_5 => ?_) (fun c_5 => ?_)
  · skip
    refine lv_iconst (v := 1) hx hb dX1_changeTarget_16 (by decide) ?_
    refine lv_goto (tgt := 21) hx hb dX1_changeTarget_17 (by decide) ?_
    refine lv_istore_n (lv' := [(3, .int 1), (0, .ref (ad 2)), (1, .int x), (2, .int y)]) hx hb dX1_changeTarget_21 rfl hl (by decide) rfl (fun ls hl => ?_)
    refine lv_aload_n hx hb dX1_changeTarget_22 rfl (lv_at hl 1 rfl) ?_
    refine lv_iload_n hx hb dX1_changeTarget_23 rfl (lv_at hl 2 rfl) ?_
    refine q_putI hC hW kX1_13 2 (Lg2 cc ad S) (Ls2_1 cc ad S x) (Nat.le_of_ble_eq_true rfl) dX1_changeTarget_24 (fun H locs hW => ?_)
    refine lv_aload_n hx hb dX1_changeTarget_27 rfl (lv_at hl 1 rfl) ?_
    refine lv_iload_n hx hb dX1_changeTarget_28 rfl (lv_at hl 3 rfl) ?_
    refine q_putI hC hW kX1_16 2 (Lg2 cc ad (sI S 0 9 x)) (Ls2_2 cc ad (sI S 0 9 x) y) (Nat.le_of_ble_eq_true rfl) dX1_changeTarget_29 (fun H locs hW => ?_)
    refine lv_iload_n hx hb dX1_changeTarget_32 rfl (lv_at hl 0 rfl) ?_
    exact hend _ _ _ _ _ _ (by simp only [sX1_changeTarget, if_neg c_5]) (by simp only [sX1_changeTarget_S, if_neg c_5]) hW dX1_changeTarget_33
  · skip
    refine lv_aload_n hx hb dX1_changeTarget_8 rfl (lv_at hl 0 rfl) ?_
    refine q_get hC hW kX1_16 2 (Lg2 cc ad S) (v := .int (S.1 0 10)) rfl dX1_changeTarget_9 ?_
    refine lv_iload_n hx hb dX1_changeTarget_12 rfl (lv_at hl 2 rfl) ?_
    refine lv_icmp_eq (tgt := 20) hx hb dX1_changeTarget_13 (by decide) (fun c_13 => ?_) (fun c_13 => ?_)
    · skip
      refine lv_iconst (v := 0) hx hb dX1_changeTarget_20 (by decide) ?_
      refine lv_istore_n (lv' := [(3, .int 0), (0, .ref (ad 2)), (1, .int x), (2, .int y)]) hx hb dX1_changeTarget_21 rfl hl (by decide) rfl (fun ls hl => ?_)
      refine lv_aload_n hx hb dX1_changeTarget_22 rfl (lv_at hl 1 rfl) ?_
      refine lv_iload_n hx hb dX1_changeTarget_23 rfl (lv_at hl 2 rfl) ?_
      refine q_putI hC hW kX1_13 2 (Lg2 cc ad S) (Ls2_1 cc ad S x) (Nat.le_of_ble_eq_true rfl) dX1_changeTarget_24 (fun H locs hW => ?_)
      refine lv_aload_n hx hb dX1_changeTarget_27 rfl (lv_at hl 1 rfl) ?_
      refine lv_iload_n hx hb dX1_changeTarget_28 rfl (lv_at hl 3 rfl) ?_
      refine q_putI hC hW kX1_16 2 (Lg2 cc ad (sI S 0 9 x)) (Ls2_2 cc ad (sI S 0 9 x) y) (Nat.le_of_ble_eq_true rfl) dX1_changeTarget_29 (fun H locs hW => ?_)
      refine lv_iload_n hx hb dX1_changeTarget_32 rfl (lv_at hl 0 rfl) ?_
      exact hend _ _ _ _ _ _ (by simp only [sX1_changeTarget, if_pos c_5, if_pos c_13]) (by simp only [sX1_changeTarget_S, if_pos c_5, if_pos c_13]) hW dX1_changeTarget_33
    · skip
      refine lv_iconst (v := 1) hx hb dX1_changeTarget_16 (by decide) ?_
      refine lv_goto (tgt := 21) hx hb dX1_changeTarget_17 (by decide) ?_
      refine lv_istore_n (lv' := [(3, .int 1), (0, .ref (ad 2)), (1, .int x), (2, .int y)]) hx hb dX1_changeTarget_21 rfl hl (by decide) rfl (fun ls hl => ?_)
      refine lv_aload_n hx hb dX1_changeTarget_22 rfl (lv_at hl 1 rfl) ?_
      refine lv_iload_n hx hb dX1_changeTarget_23 rfl (lv_at hl 2 rfl) ?_
      refine q_putI hC hW kX1_13 2 (Lg2 cc ad S) (Ls2_1 cc ad S x) (Nat.le_of_ble_eq_true rfl) dX1_changeTarget_24 (fun H locs hW => ?_)
      refine lv_aload_n hx hb dX1_changeTarget_27 rfl (lv_at hl 1 rfl) ?_
      refine lv_iload_n hx hb dX1_changeTarget_28 rfl (lv_at hl 3 rfl) ?_
      refine q_putI hC hW kX1_16 2 (Lg2 cc ad (sI S 0 9 x)) (Ls2_2 cc ad (sI S 0 9 x) y) (Nat.le_of_ble_eq_true rfl) dX1_changeTarget_29 (fun H locs hW => ?_)
      refine lv_iload_n hx hb dX1_changeTarget_32 rfl (lv_at hl 0 rfl) ?_
      exact hend _ _ _ _ _ _ (by simp only [sX1_changeTarget, if_pos c_5, if_neg c_13]) (by simp only [sX1_changeTarget_S, if_pos c_5, if_neg c_13]) hW dX1_changeTarget_33
def sX1_changeSplicing (S : St) (x : Int32) (y : Int32) : Int32 := (if (S.1 0 11) = x then (if (S.1 0 12) = y then 0 else 1) else 1)
def sX1_changeSplicing_S (S : St) (x : Int32) (y : Int32) : St := (sI (sI S 0 11 x) 0 12 y)
set_option maxHeartbeats 4000000 in
set_option maxRecDepth 100000 in
theorem c_X1_changeSplicing (l : Launch) (D : va_G) (cc : Nat → ClassId) (ad : Nat → Nat) (S : St) (x : Int32) (y : Int32) : CtI l D cc yX1_changeSplicing cX1_changeSplicing 4 .int 0 [.ref (ad 2), .int x, .int y] (LW cc ad S) (sX1_changeSplicing S x y) (LW cc ad (sX1_changeSplicing_S S x y)) := by
  refine CtI.of (plainFor_of_name (by decide +kernel)) rfl (Nat.le_of_ble_eq_true rfl) ?_
  intro p e s m args below meth c A Q hC hW hend ls hl
  obtain ⟨⟨hx, hb, hml, hown, hts⟩, hNW⟩ := id hC
  have hl : lv_has ls 4 [(0, .ref (ad 2)), (1, .int x), (2, .int y)] := hl
  refine lv_aload_n hx hb dX1_changeSplicing_0 rfl (lv_at hl 0 rfl) ?_
  refine q_get hC hW kX1_19 2 (Lg2 cc ad S) (v := .int (S.1 0 11)) rfl dX1_changeSplicing_1 ?_
  refine lv_iload_n hx hb dX1_changeSplicing_4 rfl (lv_at hl 1 rfl) ?_
  refine lv_icmp_ne (tgt := 16) hx hb dX1_changeSplicing_5 (by decide) (fun c_5 => ?_) (fun c_5 => ?_)
  · skip
    refine lv_iconst (v := 1) hx hb dX1_changeSplicing_16 (by decide) ?_
    refine lv_goto (tgt := 21) hx hb dX1_changeSplicing_17 (by decide) ?_
    refine lv_istore_n (lv' := [(3, .int 1), (0, .ref (ad 2)), (1, .int x), (2, .int y)]) hx hb dX1_changeSplicing_21 rfl hl (by decide) rfl (fun ls hl => ?_)
    refine lv_aload_n hx hb dX1_changeSplicing_22 rfl (lv_at hl 1 rfl) ?_
    refine lv_iload_n hx hb dX1_changeSplicing_23 rfl (lv_at hl 2 rfl) ?_
    refine q_putI hC hW kX1_19 2 (Lg2 cc ad S) (Ls2_3 cc ad S x) (Nat.le_of_ble_eq_true rfl) dX1_changeSplicing_24 (fun H locs hW => ?_)
    refine lv_aload_n hx hb dX1_changeSplicing_27 rfl (lv_at hl 1 rfl) ?_
    refine lv_iload_n hx hb dX1_changeSplicing_28 rfl (lv_at hl 3 rfl) ?_
    refine q_putI hC hW kX1_22 2 (Lg2 cc ad (sI S 0 11 x)) (Ls2_4 cc ad (sI S 0 11 x) y) (Nat.le_of_ble_eq_true rfl) dX1_changeSplicing_29 (fun H locs hW => ?_)
    refine lv_iload_n hx hb dX1_changeSplicing_32 rfl (lv_at hl 0 rfl) ?_
    exact hend _ _ _ _ _ _ (by simp only [sX1_changeSplicing, if_neg c_5]) (by simp only [sX1_changeSplicing_S, if_neg c_5]) hW dX1_changeSplicing_33
  · skip
    refine lv_aload_n hx hb dX1_changeSplicing_8 rfl (lv_at hl 0 rfl) ?_
    refine q_get hC hW kX1_22 2 (Lg2 cc ad S) (v := .int (S.1 0 12)) rfl dX1_changeSplicing_9 ?_
    refine lv_iload_n hx hb dX1_changeSplicing_12 rfl (lv_at hl 2 rfl) ?_
    refine lv_icmp_eq (tgt := 20) hx hb dX1_changeSplicing_13 (by decide) (fun c_13 => ?_) (fun c_13 => ?_)
    · skip
      refine lv_iconst (v := 0) hx hb dX1_changeSplicing_20 (by decide) ?_
      refine lv_istore_n (lv' := [(3, .int 0), (0, .ref (ad 2)), (1, .int x), (2, .int y)]) hx hb dX1_changeSplicing_21 rfl hl (by decide) rfl (fun ls hl => ?_)
      refine lv_aload_n hx hb dX1_changeSplicing_22 rfl (lv_at hl 1 rfl) ?_
      refine lv_iload_n hx hb dX1_changeSplicing_23 rfl (lv_at hl 2 rfl) ?_
      refine q_putI hC hW kX1_19 2 (Lg2 cc ad S) (Ls2_3 cc ad S x) (Nat.le_of_ble_eq_true rfl) dX1_changeSplicing_24 (fun H locs hW => ?_)
      refine lv_aload_n hx hb dX1_changeSplicing_27 rfl (lv_at hl 1 rfl) ?_
      refine lv_iload_n hx hb dX1_changeSplicing_28 rfl (lv_at hl 3 rfl) ?_
      refine q_putI hC hW kX1_22 2 (Lg2 cc ad (sI S 0 11 x)) (Ls2_4 cc ad (sI S 0 11 x) y) (Nat.le_of_ble_eq_true rfl) dX1_changeSplicing_29 (fun H locs hW => ?_)
      refine lv_iload_n hx hb dX1_changeSplicing_32 rfl (lv_at hl 0 rfl) ?_
      exact hend _ _ _ _ _ _ (by simp only [sX1_changeSplicing, if_pos c_5, if_pos c_13]) (by simp only [sX1_changeSplicing_S, if_pos c_5, if_pos c_13]) hW dX1_changeSplicing_33
    · skip
      refine lv_iconst (v := 1) hx hb dX1_changeSplicing_16 (by decide) ?_
      refine lv_goto (tgt := 21) hx hb dX1_changeSplicing_17 (by decide) ?_
      refine lv_istore_n (lv' := [(3, .int 1), (0, .ref (ad 2)), (1, .int x), (2, .int y)]) hx hb dX1_changeSplicing_21 rfl hl (by decide) rfl (fun ls hl => ?_)
      refine lv_aload_n hx hb dX1_changeSplicing_22 rfl (lv_at hl 1 rfl) ?_
      refine lv_iload_n hx hb dX1_changeSplicing_23 rfl (lv_at hl 2 rfl) ?_
      refine q_putI hC hW kX1_19 2 (Lg2 cc ad S) (Ls2_3 cc ad S x) (Nat.le_of_ble_eq_true rfl) dX1_changeSplicing_24 (fun H locs hW => ?_)
      refine lv_aload_n hx hb dX1_changeSplicing_27 rfl (lv_at hl 1 rfl) ?_
      refine lv_iload_n hx hb dX1_changeSplicing_28 rfl (lv_at hl 3 rfl) ?_
      refine q_putI hC hW kX1_22 2 (Lg2 cc ad (sI S 0 11 x)) (Ls2_4 cc ad (sI S 0 11 x) y) (Nat.le_of_ble_eq_true rfl) dX1_changeSplicing_29 (fun H locs hW => ?_)
      refine lv_iload_n hx hb dX1_changeSplicing_32 rfl (lv_at hl 0 rfl) ?_
      exact hend _ _ _ _ _ _ (by simp only [sX1_changeSplicing, if_pos c_5, if_neg c_13]) (by simp only [sX1_changeSplicing_S, if_pos c_5, if_neg c_13]) hW dX1_changeSplicing_33
def sX1_approachWanted_S (S : St) (x : Int32) : St := (if x = 0 then (sI S 0 8 ((S.1 0 8) + ((sX11_limit (((S.1 0 9) - (S.1 0 8)).toInt64) ((-(S.1 0 10)).toInt64) ((S.1 0 10).toInt64)).toInt32))) else (sI S 0 8 ((S.1 0 8) + ((sX11_limit (((sJ9_min_7cf53 (S.1 0 9) (S.1 0 11)) - (S.1 0 8)).toInt64) ((-(S.1 0 10)).toInt64) ((S.1 0 10).toInt64)).toInt32))))
set_option maxHeartbeats 4000000 in
set_option maxRecDepth 100000 in
theorem c_X1_approachWanted (l : Launch) (D : va_G) (cc : Nat → ClassId) (ad : Nat → Nat) (S : St) (x : Int32) : CtV l D cc yX1_approachWanted cX1_approachWanted 3 2 [.ref (ad 2), .int x] (LW cc ad S) (LW cc ad (sX1_approachWanted_S S x)) := by
  refine CtV.of (plainFor_of_name (by decide +kernel)) (Nat.le_of_ble_eq_true rfl) ?_
  intro p e s m args below meth c A Q hC hW hend ls hl
  obtain ⟨⟨hx, hb, hml, hown, hts⟩, hNW⟩ := id hC
  have hl : lv_has ls 3 [(0, .ref (ad 2)), (1, .int x)] := hl
  refine lv_iload_n hx hb dX1_approachWanted_0 rfl (lv_at hl 1 rfl) ?_
  refine lv_if_eq (tgt := 18) hx hb dX1_approachWanted_1 (by decide) (fun c_1 => ?_) (fun c_1 => ?_)
  · skip
    refine lv_aload_n hx hb dX1_approachWanted_18 rfl (lv_at hl 0 rfl) ?_
    refine q_get hC hW kX1_13 2 (Lg2 cc ad S) (v := .int (S.1 0 9)) rfl dX1_approachWanted_19 ?_
    refine lv_istore_n (lv' := [(2, .int (S.1 0 9)), (0, .ref (ad 2)), (1, .int x)]) hx hb dX1_approachWanted_22 rfl hl (by decide) rfl (fun ls hl => ?_)
    refine lv_aload_n hx hb dX1_approachWanted_23 rfl (lv_at hl 1 rfl) ?_
    refine lv_dup hx hb dX1_approachWanted_24 rfl ?_
    refine q_get hC hW kX1_7 2 (Lg2 cc ad S) (v := .int (S.1 0 8)) rfl dX1_approachWanted_25 ?_
    refine lv_iload_n hx hb dX1_approachWanted_28 rfl (lv_at hl 0 rfl) ?_
    refine lv_aload_n hx hb dX1_approachWanted_29 rfl (lv_at hl 1 rfl) ?_
    refine q_get hC hW kX1_7 2 (Lg2 cc ad S) (v := .int (S.1 0 8)) rfl dX1_approachWanted_30 ?_
    refine lv_isub hx hb dX1_approachWanted_33 ?_
    refine lv_i2l hx hb dX1_approachWanted_34 rfl ?_
    refine lv_aload_n hx hb dX1_approachWanted_35 rfl (lv_at hl 1 rfl) ?_
    refine q_get hC hW kX1_16 2 (Lg2 cc ad S) (v := .int (S.1 0 10)) rfl dX1_approachWanted_36 ?_
    refine lv_ineg hx hb dX1_approachWanted_39 ?_
    refine lv_i2l hx hb dX1_approachWanted_40 rfl ?_
    refine lv_aload_n hx hb dX1_approachWanted_41 rfl (lv_at hl 1 rfl) ?_
    refine q_get hC hW kX1_16 2 (Lg2 cc ad S) (v := .int (S.1 0 10)) rfl dX1_approachWanted_42 ?_
    refine lv_i2l hx hb dX1_approachWanted_45 rfl ?_
    refine q_SL hC hW (c_X11_limit l D cc _ (((S.1 0 9) - (S.1 0 8)).toInt64) ((-(S.1 0 10)).toInt64) ((S.1 0 10).toInt64)) mX1_31 (by decide) rfl hl.1 rfl (Nat.le_of_ble_eq_true rfl) (by decide) dX1_approachWanted_46 (fun H locs hW => ?_)
    refine lv_l2i hx hb dX1_approachWanted_49 rfl ?_
    refine lv_iadd hx hb dX1_approachWanted_50 ?_
    refine q_putI hC hW kX1_7 2 (Lg2 cc ad S) (Ls2_0 cc ad S ((S.1 0 8) + ((sX11_limit (((S.1 0 9) - (S.1 0 8)).toInt64) ((-(S.1 0 10)).toInt64) ((S.1 0 10).toInt64)).toInt32))) (Nat.le_of_ble_eq_true rfl) dX1_approachWanted_51 (fun H locs hW => ?_)
    exact hend _ _ _ _ _ (by simp only [sX1_approachWanted_S, if_pos c_1]) hW dX1_approachWanted_54
  · skip
    refine lv_aload_n hx hb dX1_approachWanted_4 rfl (lv_at hl 0 rfl) ?_
    refine q_get hC hW kX1_13 2 (Lg2 cc ad S) (v := .int (S.1 0 9)) rfl dX1_approachWanted_5 ?_
    refine lv_aload_n hx hb dX1_approachWanted_8 rfl (lv_at hl 0 rfl) ?_
    refine q_get hC hW kX1_19 2 (Lg2 cc ad S) (v := .int (S.1 0 11)) rfl dX1_approachWanted_9 ?_
    refine q_SI hC hW (c_J9_min_7cf53 l D cc _ (S.1 0 9) (S.1 0 11)) mX1_25 (by decide) rfl hl.1 rfl (Nat.le_of_ble_eq_true rfl) (by decide) dX1_approachWanted_12 (fun H locs hW => ?_)
    refine lv_goto (tgt := 22) hx hb dX1_approachWanted_15 (by decide) ?_
    refine lv_istore_n (lv' := [(2, .int (sJ9_min_7cf53 (S.1 0 9) (S.1 0 11))), (0, .ref (ad 2)), (1, .int x)]) hx hb dX1_approachWanted_22 rfl hl (by decide) rfl (fun ls hl => ?_)
    refine lv_aload_n hx hb dX1_approachWanted_23 rfl (lv_at hl 1 rfl) ?_
    refine lv_dup hx hb dX1_approachWanted_24 rfl ?_
    refine q_get hC hW kX1_7 2 (Lg2 cc ad S) (v := .int (S.1 0 8)) rfl dX1_approachWanted_25 ?_
    refine lv_iload_n hx hb dX1_approachWanted_28 rfl (lv_at hl 0 rfl) ?_
    refine lv_aload_n hx hb dX1_approachWanted_29 rfl (lv_at hl 1 rfl) ?_
    refine q_get hC hW kX1_7 2 (Lg2 cc ad S) (v := .int (S.1 0 8)) rfl dX1_approachWanted_30 ?_
    refine lv_isub hx hb dX1_approachWanted_33 ?_
    refine lv_i2l hx hb dX1_approachWanted_34 rfl ?_
    refine lv_aload_n hx hb dX1_approachWanted_35 rfl (lv_at hl 1 rfl) ?_
    refine q_get hC hW kX1_16 2 (Lg2 cc ad S) (v := .int (S.1 0 10)) rfl dX1_approachWanted_36 ?_
    refine lv_ineg hx hb dX1_approachWanted_39 ?_
    refine lv_i2l hx hb dX1_approachWanted_40 rfl ?_
    refine lv_aload_n hx hb dX1_approachWanted_41 rfl (lv_at hl 1 rfl) ?_
    refine q_get hC hW kX1_16 2 (Lg2 cc ad S) (v := .int (S.1 0 10)) rfl dX1_approachWanted_42 ?_
    refine lv_i2l hx hb dX1_approachWanted_45 rfl ?_
    refine q_SL hC hW (c_X11_limit l D cc _ (((sJ9_min_7cf53 (S.1 0 9) (S.1 0 11)) - (S.1 0 8)).toInt64) ((-(S.1 0 10)).toInt64) ((S.1 0 10).toInt64)) mX1_31 (by decide) rfl hl.1 rfl (Nat.le_of_ble_eq_true rfl) (by decide) dX1_approachWanted_46 (fun H locs hW => ?_)
    refine lv_l2i hx hb dX1_approachWanted_49 rfl ?_
    refine lv_iadd hx hb dX1_approachWanted_50 ?_
    refine q_putI hC hW kX1_7 2 (Lg2 cc ad S) (Ls2_0 cc ad S ((S.1 0 8) + ((sX11_limit (((sJ9_min_7cf53 (S.1 0 9) (S.1 0 11)) - (S.1 0 8)).toInt64) ((-(S.1 0 10)).toInt64) ((S.1 0 10).toInt64)).toInt32))) (Nat.le_of_ble_eq_true rfl) dX1_approachWanted_51 (fun H locs hW => ?_)
    exact hend _ _ _ _ _ (by simp only [sX1_approachWanted_S, if_neg c_1]) hW dX1_approachWanted_54
def sX7_begin_S (S : St) (i : Nat) : St := (sI (sI (sJ S 5 i 0) 17 i 0) 18 i 0)
set_option maxHeartbeats 4000000 in
set_option maxRecDepth 100000 in
theorem c_X7_begin (l : Launch) (D : va_G) (cc : Nat → ClassId) (ad : Nat → Nat) (S : St) (i : Nat) (hi : i < 7) : CtV l D cc yX7_begin cX7_begin 1 0 [.ref (ad (i + 33))] (LW cc ad S) (LW cc ad (sX7_begin_S S i)) := by
  refine CtV.of (plainFor_of_name (by decide +kernel)) (Nat.le_of_ble_eq_true rfl) ?_
  intro p e s m args below meth c A Q hC hW hend ls hl
  obtain ⟨⟨hx, hb, hml, hown, hts⟩, hNW⟩ := id hC
  have hl : lv_has ls 1 [(0, .ref (ad (i + 33)))] := hl
  refine lv_aload_n hx hb dX7_begin_0 rfl (lv_at hl 0 rfl) ?_
  refine lv_lconst (v := 0) hx hb dX7_begin_1 rfl ?_
  refine q_putL hC hW kX7_7 (i + 33) (Lg_f7 cc ad S i (by omega)) (Ls_f7_0 cc ad S i (by omega) 0) (Nat.le_of_ble_eq_true rfl) dX7_begin_2 (fun H locs hW => ?_)
  refine lv_aload_n hx hb dX7_begin_5 rfl (lv_at hl 0 rfl) ?_
  refine lv_iconst (v := 0) hx hb dX7_begin_6 (by decide) ?_
  refine q_putI hC hW kX7_13 (i + 33) (Lg_f7 cc ad (sJ S 5 i 0) i (by omega)) (Ls_f7_1 cc ad (sJ S 5 i 0) i (by omega) 0) (Nat.le_of_ble_eq_true rfl) dX7_begin_7 (fun H locs hW => ?_)
  refine lv_aload_n hx hb dX7_begin_10 rfl (lv_at hl 0 rfl) ?_
  refine lv_iconst (v := 0) hx hb dX7_begin_11 (by decide) ?_
  refine q_putI hC hW kX7_17 (i + 33) (Lg_f7 cc ad (sI (sJ S 5 i 0) 17 i 0) i (by omega)) (Ls_f7_2 cc ad (sI (sJ S 5 i 0) 17 i 0) i (by omega) 0) (Nat.le_of_ble_eq_true rfl) dX7_begin_12 (fun H locs hW => ?_)
  exact hend _ _ _ _ _ (by unfold sX7_begin_S; rfl) hW dX7_begin_15
theorem n_X7_begin (S : St) (i : Nat) : (sX7_begin_S S i).1 0 0 = S.1 0 0 := rfl
def sX6_begin_S (S : St)  : St := (sI (sI (sJ S 0 1 0) 0 14 1000000000) 0 15 0)
set_option maxHeartbeats 4000000 in
set_option maxRecDepth 100000 in
theorem c_X6_begin (l : Launch) (D : va_G) (cc : Nat → ClassId) (ad : Nat → Nat) (S : St) : CtV l D cc yX6_begin cX6_begin 1 0 [.ref (ad 5)] (LW cc ad S) (LW cc ad (sX6_begin_S S )) := by
  refine CtV.of (plainFor_of_name (by decide +kernel)) (Nat.le_of_ble_eq_true rfl) ?_
  intro p e s m args below meth c A Q hC hW hend ls hl
  obtain ⟨⟨hx, hb, hml, hown, hts⟩, hNW⟩ := id hC
  have hl : lv_has ls 1 [(0, .ref (ad 5))] := hl
  refine lv_aload_n hx hb dX6_begin_0 rfl (lv_at hl 0 rfl) ?_
  refine lv_lconst (v := 0) hx hb dX6_begin_1 rfl ?_
  refine q_putL hC hW kX6_9 5 (Lg5 cc ad S) (Ls5_0 cc ad S 0) (Nat.le_of_ble_eq_true rfl) dX6_begin_2 (fun H locs hW => ?_)
  refine lv_aload_n hx hb dX6_begin_5 rfl (lv_at hl 0 rfl) ?_
  refine q_ldc hC nX6_15 dX6_begin_6 ?_
  refine q_putI hC hW kX6_16 5 (Lg5 cc ad (sJ S 0 1 0)) (Ls5_1 cc ad (sJ S 0 1 0) 1000000000) (Nat.le_of_ble_eq_true rfl) dX6_begin_8 (fun H locs hW => ?_)
  refine lv_aload_n hx hb dX6_begin_11 rfl (lv_at hl 0 rfl) ?_
  refine lv_iconst (v := 0) hx hb dX6_begin_12 (by decide) ?_
  refine q_putI hC hW kX6_20 5 (Lg5 cc ad (sI (sJ S 0 1 0) 0 14 1000000000)) (Ls5_2 cc ad (sI (sJ S 0 1 0) 0 14 1000000000) 0) (Nat.le_of_ble_eq_true rfl) dX6_begin_13 (fun H locs hW => ?_)
  exact hend _ _ _ _ _ (by unfold sX6_begin_S; rfl) hW dX6_begin_16
def sX6_takes (S : St) (x : Int64) : Int32 := (if ((S.1 0 14).toInt64) ≤ ((S.2 0 1) + x) then 1 else 0)
def sX6_takes_S (S : St) (x : Int64) : St := (if ((S.1 0 14).toInt64) ≤ ((S.2 0 1) + x) then (sI (sJ (sJ S 0 1 ((S.2 0 1) + x)) 0 1 (((S.2 0 1) + x) - ((S.1 0 14).toInt64))) 0 15 ((S.1 0 15) + 1)) else (sJ S 0 1 ((S.2 0 1) + x)))
set_option maxHeartbeats 4000000 in
set_option maxRecDepth 100000 in
theorem c_X6_takes (l : Launch) (D : va_G) (cc : Nat → ClassId) (ad : Nat → Nat) (S : St) (x : Int64) : CtI l D cc yX6_takes cX6_takes 3 .boolean 0 [.ref (ad 5), .long x] (LW cc ad S) (sX6_takes S x) (LW cc ad (sX6_takes_S S x)) := by
  refine CtI.of (plainFor_of_name (by decide +kernel)) (by unfold sX6_takes; repeat' (first | rfl | split)) (Nat.le_of_ble_eq_true rfl) ?_
  intro p e s m args below meth c A Q hC hW hend ls hl
  obtain ⟨⟨hx, hb, hml, hown, hts⟩, hNW⟩ := id hC
  have hl : lv_has ls 3 [(0, .ref (ad 5)), (1, .long x)] := hl
  refine lv_aload_n hx hb dX6_takes_0 rfl (lv_at hl 0 rfl) ?_
  refine lv_dup hx hb dX6_takes_1 rfl ?_
  refine q_get hC hW kX6_9 5 (Lg5 cc ad S) (v := .long (S.2 0 1)) rfl dX6_takes_2 ?_
  refine lv_lload_n hx hb dX6_takes_5 rfl (lv_at hl 1 rfl) ?_
  refine lv_ladd hx hb dX6_takes_6 ?_
  refine q_putL hC hW kX6_9 5 (Lg5 cc ad S) (Ls5_0 cc ad S ((S.2 0 1) + x)) (Nat.le_of_ble_eq_true rfl) dX6_takes_7 (fun H locs hW => ?_)
  refine lv_aload_n hx hb dX6_takes_10 rfl (lv_at hl 0 rfl) ?_
  refine q_get hC hW kX6_9 5 (Lg5 cc ad (sJ S 0 1 ((S.2 0 1) + x))) (v := .long ((S.2 0 1) + x)) rfl dX6_takes_11 ?_
  refine lv_aload_n hx hb dX6_takes_14 rfl (lv_at hl 0 rfl) ?_
  refine q_get hC hW kX6_16 5 (Lg5 cc ad (sJ S 0 1 ((S.2 0 1) + x))) (v := .int (S.1 0 14)) rfl dX6_takes_15 ?_
  refine lv_i2l hx hb dX6_takes_18 rfl ?_
  refine q_jge (tgt := 25) hC dX6_takes_19 dX6_takes_20 (by decide) (fun c_19 => ?_) (fun c_19 => ?_)
  · skip
    refine lv_aload_n hx hb dX6_takes_25 rfl (lv_at hl 0 rfl) ?_
    refine lv_dup hx hb dX6_takes_26 rfl ?_
    refine q_get hC hW kX6_9 5 (Lg5 cc ad (sJ S 0 1 ((S.2 0 1) + x))) (v := .long ((S.2 0 1) + x)) rfl dX6_takes_27 ?_
    refine lv_aload_n hx hb dX6_takes_30 rfl (lv_at hl 0 rfl) ?_
    refine q_get hC hW kX6_16 5 (Lg5 cc ad (sJ S 0 1 ((S.2 0 1) + x))) (v := .int (S.1 0 14)) rfl dX6_takes_31 ?_
    refine lv_i2l hx hb dX6_takes_34 rfl ?_
    refine lv_lsub hx hb dX6_takes_35 ?_
    refine q_putL hC hW kX6_9 5 (Lg5 cc ad (sJ S 0 1 ((S.2 0 1) + x))) (Ls5_0 cc ad (sJ S 0 1 ((S.2 0 1) + x)) (((S.2 0 1) + x) - ((S.1 0 14).toInt64))) (Nat.le_of_ble_eq_true rfl) dX6_takes_36 (fun H locs hW => ?_)
    refine lv_aload_n hx hb dX6_takes_39 rfl (lv_at hl 0 rfl) ?_
    refine lv_dup hx hb dX6_takes_40 rfl ?_
    refine q_get hC hW kX6_20 5 (Lg5 cc ad (sJ (sJ S 0 1 ((S.2 0 1) + x)) 0 1 (((S.2 0 1) + x) - ((S.1 0 14).toInt64)))) (v := .int (S.1 0 15)) rfl dX6_takes_41 ?_
    refine lv_iconst (v := 1) hx hb dX6_takes_44 (by decide) ?_
    refine lv_iadd hx hb dX6_takes_45 ?_
    refine q_putI hC hW kX6_20 5 (Lg5 cc ad (sJ (sJ S 0 1 ((S.2 0 1) + x)) 0 1 (((S.2 0 1) + x) - ((S.1 0 14).toInt64)))) (Ls5_2 cc ad (sJ (sJ S 0 1 ((S.2 0 1) + x)) 0 1 (((S.2 0 1) + x) - ((S.1 0 14).toInt64))) ((S.1 0 15) + 1)) (Nat.le_of_ble_eq_true rfl) dX6_takes_46 (fun H locs hW => ?_)
    refine lv_iconst (v := 1) hx hb dX6_takes_49 (by decide) ?_
    exact hend _ _ _ _ _ _ (by simp only [sX6_takes, if_pos c_19]) (by simp only [sX6_takes_S, if_pos c_19]) hW dX6_takes_50
  · skip
    refine lv_iconst (v := 0) hx hb dX6_takes_23 (by decide) ?_
    exact hend _ _ _ _ _ _ (by simp only [sX6_takes, if_neg c_19]) (by simp only [sX6_takes_S, if_neg c_19]) hW dX6_takes_24
def sX4_begin_S (S : St) (i : Nat) (x : Int32) (y : Int32) : St := (sI (sI S 15 i x) 16 i y)
set_option maxHeartbeats 4000000 in
set_option maxRecDepth 100000 in
theorem c_X4_begin (l : Launch) (D : va_G) (cc : Nat → ClassId) (ad : Nat → Nat) (S : St) (i : Nat) (x : Int32) (y : Int32) (hi : i < 6) : CtV l D cc yX4_begin cX4_begin 3 0 [.ref (ad (i + 27)), .int x, .int y] (LW cc ad S) (LW cc ad (sX4_begin_S S i x y)) := by
  refine CtV.of (plainFor_of_name (by decide +kernel)) (Nat.le_of_ble_eq_true rfl) ?_
  intro p e s m args below meth c A Q hC hW hend ls hl
  obtain ⟨⟨hx, hb, hml, hown, hts⟩, hNW⟩ := id hC
  have hl : lv_has ls 3 [(0, .ref (ad (i + 27))), (1, .int x), (2, .int y)] := hl
  refine lv_aload_n hx hb dX4_begin_0 rfl (lv_at hl 0 rfl) ?_
  refine lv_iload_n hx hb dX4_begin_1 rfl (lv_at hl 1 rfl) ?_
  refine q_putI hC hW kX4_9 (i + 27) (Lg_f4 cc ad S i (by omega)) (Ls_f4_0 cc ad S i (by omega) x) (Nat.le_of_ble_eq_true rfl) dX4_begin_2 (fun H locs hW => ?_)
  refine lv_aload_n hx hb dX4_begin_5 rfl (lv_at hl 0 rfl) ?_
  refine lv_iload_n hx hb dX4_begin_6 rfl (lv_at hl 2 rfl) ?_
  refine q_putI hC hW kX4_15 (i + 27) (Lg_f4 cc ad (sI S 15 i x) i (by omega)) (Ls_f4_1 cc ad (sI S 15 i x) i (by omega) y) (Nat.le_of_ble_eq_true rfl) dX4_begin_7 (fun H locs hW => ?_)
  exact hend _ _ _ _ _ (by unfold sX4_begin_S; rfl) hW dX4_begin_10
def sX4_trimAfter (S : St) (i : Nat) (x : Int32) (y : Int64) : Int32 := ((sX11_limit ((x.toInt64) + (sJ9_floorDiv_f86c9 (((S.1 16 i).toInt64) * (((S.1 15 i).toInt64) - y)) 1000000)) (-2000) 2000).toInt32)
set_option maxHeartbeats 4000000 in
set_option maxRecDepth 100000 in
theorem c_X4_trimAfter (l : Launch) (D : va_G) (cc : Nat → ClassId) (ad : Nat → Nat) (S : St) (i : Nat) (x : Int32) (y : Int64) (hi : i < 6) : CtI l D cc yX4_trimAfter cX4_trimAfter 6 .int 2 [.ref (ad (i + 27)), .int x, .long y] (LW cc ad S) (sX4_trimAfter S i x y) (LW cc ad S) := by
  refine CtI.of (plainFor_of_name (by decide +kernel)) rfl (Nat.le_of_ble_eq_true rfl) ?_
  intro p e s m args below meth c A Q hC hW hend ls hl
  obtain ⟨⟨hx, hb, hml, hown, hts⟩, hNW⟩ := id hC
  have hl : lv_has ls 6 [(0, .ref (ad (i + 27))), (1, .int x), (2, .long y)] := hl
  refine lv_aload_n hx hb dX4_trimAfter_0 rfl (lv_at hl 0 rfl) ?_
  refine q_get hC hW kX4_15 (i + 27) (Lg_f4 cc ad S i (by omega)) (v := .int (S.1 16 i)) rfl dX4_trimAfter_1 ?_
  refine lv_i2l hx hb dX4_trimAfter_4 rfl ?_
  refine lv_aload_n hx hb dX4_trimAfter_5 rfl (lv_at hl 0 rfl) ?_
  refine q_get hC hW kX4_9 (i + 27) (Lg_f4 cc ad S i (by omega)) (v := .int (S.1 15 i)) rfl dX4_trimAfter_6 ?_
  refine lv_i2l hx hb dX4_trimAfter_9 rfl ?_
  refine lv_lload_n hx hb dX4_trimAfter_10 rfl (lv_at hl 2 rfl) ?_
  refine lv_lsub hx hb dX4_trimAfter_11 ?_
  refine lv_lmul hx hb dX4_trimAfter_12 ?_
  refine q_ldc2 hC nX4_18 dX4_trimAfter_13 ?_
  refine q_SL hC hW (c_J9_floorDiv_f86c9 l D cc _ (((S.1 16 i).toInt64) * (((S.1 15 i).toInt64) - y)) 1000000 (by decide)) mX4_20 (by decide) rfl hl.1 rfl (Nat.le_of_ble_eq_true rfl) (by decide) dX4_trimAfter_16 (fun H locs hW => ?_)
  refine lv_lstore (lv' := [(4, .long (sJ9_floorDiv_f86c9 (((S.1 16 i).toInt64) * (((S.1 15 i).toInt64) - y)) 1000000)), (0, .ref (ad (i + 27))), (1, .int x), (2, .long y)]) hx hb dX4_trimAfter_19 hl (by decide) rfl (fun ls hl => ?_)
  refine lv_iload_n hx hb dX4_trimAfter_21 rfl (lv_at hl 2 rfl) ?_
  refine lv_i2l hx hb dX4_trimAfter_22 rfl ?_
  refine lv_lload hx hb dX4_trimAfter_23 (lv_at hl 0 rfl) ?_
  refine lv_ladd hx hb dX4_trimAfter_25 ?_
  refine q_ldc2 hC nX4_26 dX4_trimAfter_26 ?_
  refine q_ldc2 hC nX4_28 dX4_trimAfter_29 ?_
  refine q_SL hC hW (c_X11_limit l D cc _ ((x.toInt64) + (sJ9_floorDiv_f86c9 (((S.1 16 i).toInt64) * (((S.1 15 i).toInt64) - y)) 1000000)) (-2000) 2000) mX4_30 (by decide) rfl hl.1 rfl (Nat.le_of_ble_eq_true rfl) (by decide) dX4_trimAfter_32 (fun H locs hW => ?_)
  refine lv_l2i hx hb dX4_trimAfter_35 rfl ?_
  exact hend _ _ _ _ _ _ (by unfold sX4_trimAfter; rfl) rfl hW dX4_trimAfter_36
def sX0_centre_S (S : St) (i : Nat) : St := (sI (sI S 13 i ((S.1 8 i) / 2)) 14 i 0)
set_option maxHeartbeats 4000000 in
set_option maxRecDepth 100000 in
theorem c_X0_centre (l : Launch) (D : va_G) (cc : Nat → ClassId) (ad : Nat → Nat) (S : St) (i : Nat) (hi : i < 6) : CtV l D cc yX0_centre cX0_centre 1 0 [.ref (ad (i + 21))] (LW cc ad S) (LW cc ad (sX0_centre_S S i)) := by
  refine CtV.of (plainFor_of_name (by decide +kernel)) (Nat.le_of_ble_eq_true rfl) ?_
  intro p e s m args below meth c A Q hC hW hend ls hl
  obtain ⟨⟨hx, hb, hml, hown, hts⟩, hNW⟩ := id hC
  have hl : lv_has ls 1 [(0, .ref (ad (i + 21)))] := hl
  refine lv_aload_n hx hb dX0_centre_0 rfl (lv_at hl 0 rfl) ?_
  refine lv_aload_n hx hb dX0_centre_1 rfl (lv_at hl 0 rfl) ?_
  refine q_get hC hW kX0_9 (i + 21) (Lg_f0 cc ad S i (by omega)) (v := .int (S.1 8 i)) rfl dX0_centre_2 ?_
  refine lv_iconst (v := 2) hx hb dX0_centre_5 (by decide) ?_
  refine lv_idiv hx hb dX0_centre_6 (by decide) ?_
  refine q_putI hC hW kX0_30 (i + 21) (Lg_f0 cc ad S i (by omega)) (Ls_f0_5 cc ad S i (by omega) ((S.1 8 i) / 2)) (Nat.le_of_ble_eq_true rfl) dX0_centre_7 (fun H locs hW => ?_)
  refine lv_aload_n hx hb dX0_centre_10 rfl (lv_at hl 0 rfl) ?_
  refine lv_iconst (v := 0) hx hb dX0_centre_11 (by decide) ?_
  refine q_putI hC hW kX0_33 (i + 21) (Lg_f0 cc ad (sI S 13 i ((S.1 8 i) / 2)) i (by omega)) (Ls_f0_6 cc ad (sI S 13 i ((S.1 8 i) / 2)) i (by omega) 0) (Nat.le_of_ble_eq_true rfl) dX0_centre_12 (fun H locs hW => ?_)
  exact hend _ _ _ _ _ (by unfold sX0_centre_S; rfl) hW dX0_centre_15
def sX0_begin_S (S : St) (i : Nat) (x1 : Int32) (x2 : Int32) (x3 : Int32) (x4 : Int32) (x5 : Int32) : St := (sX0_centre_S (sI (sI (sI (sI (sI S 8 i x1) 9 i x2) 10 i x3) 11 i x4) 12 i x5) i)
set_option maxHeartbeats 4000000 in
set_option maxRecDepth 100000 in
theorem c_X0_begin (l : Launch) (D : va_G) (cc : Nat → ClassId) (ad : Nat → Nat) (S : St) (i : Nat) (x1 : Int32) (x2 : Int32) (x3 : Int32) (x4 : Int32) (x5 : Int32) (hi : i < 6) : CtV l D cc yX0_begin cX0_begin 6 1 [.ref (ad (i + 21)), .int x1, .int x2, .int x3, .int x4, .int x5] (LW cc ad S) (LW cc ad (sX0_begin_S S i x1 x2 x3 x4 x5)) := by
  refine CtV.of (plainFor_of_name (by decide +kernel)) (Nat.le_of_ble_eq_true rfl) ?_
  intro p e s m args below meth c A Q hC hW hend ls hl
  obtain ⟨⟨hx, hb, hml, hown, hts⟩, hNW⟩ := id hC
  have hl : lv_has ls 6 [(0, .ref (ad (i + 21))), (1, .int x1), (2, .int x2), (3, .int x3), (4, .int x4), (5, .int x5)] := hl
  refine lv_aload_n hx hb dX0_begin_0 rfl (lv_at hl 0 rfl) ?_
  refine lv_iload_n hx hb dX0_begin_1 rfl (lv_at hl 1 rfl) ?_
  refine q_putI hC hW kX0_9 (i + 21) (Lg_f0 cc ad S i (by omega)) (Ls_f0_0 cc ad S i (by omega) x1) (Nat.le_of_ble_eq_true rfl) dX0_begin_2 (fun H locs hW => ?_)
  refine lv_aload_n hx hb dX0_begin_5 rfl (lv_at hl 0 rfl) ?_
  refine lv_iload_n hx hb dX0_begin_6 rfl (lv_at hl 2 rfl) ?_
  refine q_putI hC hW kX0_15 (i + 21) (Lg_f0 cc ad (sI S 8 i x1) i (by omega)) (Ls_f0_1 cc ad (sI S 8 i x1) i (by omega) x2) (Nat.le_of_ble_eq_true rfl) dX0_begin_7 (fun H locs hW => ?_)
  refine lv_aload_n hx hb dX0_begin_10 rfl (lv_at hl 0 rfl) ?_
  refine lv_iload_n hx hb dX0_begin_11 rfl (lv_at hl 3 rfl) ?_
  refine q_putI hC hW kX0_18 (i + 21) (Lg_f0 cc ad (sI (sI S 8 i x1) 9 i x2) i (by omega)) (Ls_f0_2 cc ad (sI (sI S 8 i x1) 9 i x2) i (by omega) x3) (Nat.le_of_ble_eq_true rfl) dX0_begin_12 (fun H locs hW => ?_)
  refine lv_aload_n hx hb dX0_begin_15 rfl (lv_at hl 0 rfl) ?_
  refine lv_iload hx hb dX0_begin_16 (lv_at hl 4 rfl) ?_
  refine q_putI hC hW kX0_21 (i + 21) (Lg_f0 cc ad (sI (sI (sI S 8 i x1) 9 i x2) 10 i x3) i (by omega)) (Ls_f0_3 cc ad (sI (sI (sI S 8 i x1) 9 i x2) 10 i x3) i (by omega) x4) (Nat.le_of_ble_eq_true rfl) dX0_begin_18 (fun H locs hW => ?_)
  refine lv_aload_n hx hb dX0_begin_21 rfl (lv_at hl 0 rfl) ?_
  refine lv_iload hx hb dX0_begin_22 (lv_at hl 5 rfl) ?_
  refine q_putI hC hW kX0_24 (i + 21) (Lg_f0 cc ad (sI (sI (sI (sI S 8 i x1) 9 i x2) 10 i x3) 11 i x4) i (by omega)) (Ls_f0_4 cc ad (sI (sI (sI (sI S 8 i x1) 9 i x2) 10 i x3) 11 i x4) i (by omega) x5) (Nat.le_of_ble_eq_true rfl) dX0_begin_24 (fun H locs hW => ?_)
  refine lv_aload_n hx hb dX0_begin_27 rfl (lv_at hl 0 rfl) ?_
  refine q_VV hC hW (c_X0_centre l D cc ad (sI (sI (sI (sI (sI S 8 i x1) 9 i x2) 10 i x3) 11 i x4) 12 i x5) i (by omega)) mX0_27 (i + 21) (Lg_f0 cc ad (sI (sI (sI (sI (sI S 8 i x1) 9 i x2) 10 i x3) 11 i x4) 12 i x5) i (by omega)) rfl (by decide) rfl hl.1 rfl (Nat.le_of_ble_eq_true rfl) (by decide) dX0_begin_28 (fun H locs hW => ?_)
  exact hend _ _ _ _ _ (by unfold sX0_begin_S; rfl) hW dX0_begin_31
def sX0_error (S : St) (i : Nat) : Int32 := ((S.1 13 i) - ((S.1 8 i) / 2))
set_option maxHeartbeats 4000000 in
set_option maxRecDepth 100000 in
theorem c_X0_error (l : Launch) (D : va_G) (cc : Nat → ClassId) (ad : Nat → Nat) (S : St) (i : Nat) (hi : i < 6) : CtI l D cc yX0_error cX0_error 1 .int 0 [.ref (ad (i + 21))] (LW cc ad S) (sX0_error S i) (LW cc ad S) := by
  refine CtI.of (plainFor_of_name (by decide +kernel)) rfl (Nat.le_of_ble_eq_true rfl) ?_
  intro p e s m args below meth c A Q hC hW hend ls hl
  obtain ⟨⟨hx, hb, hml, hown, hts⟩, hNW⟩ := id hC
  have hl : lv_has ls 1 [(0, .ref (ad (i + 21)))] := hl
  refine lv_aload_n hx hb dX0_error_0 rfl (lv_at hl 0 rfl) ?_
  refine q_get hC hW kX0_30 (i + 21) (Lg_f0 cc ad S i (by omega)) (v := .int (S.1 13 i)) rfl dX0_error_1 ?_
  refine lv_aload_n hx hb dX0_error_4 rfl (lv_at hl 0 rfl) ?_
  refine q_get hC hW kX0_9 (i + 21) (Lg_f0 cc ad S i (by omega)) (v := .int (S.1 8 i)) rfl dX0_error_5 ?_
  refine lv_iconst (v := 2) hx hb dX0_error_8 (by decide) ?_
  refine lv_idiv hx hb dX0_error_9 (by decide) ?_
  refine lv_isub hx hb dX0_error_10 ?_
  exact hend _ _ _ _ _ _ (by unfold sX0_error; rfl) rfl hW dX0_error_11
def sX0_move_S (S : St) (i : Nat) (x : Int64) : St := (sI (sI S 13 i ((sX11_limit (((S.1 13 i).toInt64) + (sX11_limit (sX11_quotient (((S.1 9 i).toInt64) - (2 * x)) ((S.1 10 i).toInt64)) (-500) 500)) 0 ((S.1 8 i).toInt64)).toInt32)) 14 i ((sX11_limit (((S.1 14 i).toInt64) + ((sX0_error (sI S 13 i ((sX11_limit (((S.1 13 i).toInt64) + (sX11_limit (sX11_quotient (((S.1 9 i).toInt64) - (2 * x)) ((S.1 10 i).toInt64)) (-500) 500)) 0 ((S.1 8 i).toInt64)).toInt32)) i).toInt64)) (-1000000) 1000000).toInt32))
set_option maxHeartbeats 4000000 in
set_option maxRecDepth 100000 in
theorem c_X0_move (l : Launch) (D : va_G) (cc : Nat → ClassId) (ad : Nat → Nat) (S : St) (i : Nat) (x : Int64) (hi : i < 6) : CtV l D cc yX0_move cX0_move 5 2 [.ref (ad (i + 21)), .long x] (LW cc ad S) (LW cc ad (sX0_move_S S i x)) := by
  refine CtV.of (plainFor_of_name (by decide +kernel)) (Nat.le_of_ble_eq_true rfl) ?_
  intro p e s m args below meth c A Q hC hW hend ls hl
  obtain ⟨⟨hx, hb, hml, hown, hts⟩, hNW⟩ := id hC
  have hl : lv_has ls 5 [(0, .ref (ad (i + 21))), (1, .long x)] := hl
  refine lv_aload_n hx hb dX0_move_0 rfl (lv_at hl 0 rfl) ?_
  refine q_get hC hW kX0_15 (i + 21) (Lg_f0 cc ad S i (by omega)) (v := .int (S.1 9 i)) rfl dX0_move_1 ?_
  refine lv_i2l hx hb dX0_move_4 rfl ?_
  refine q_ldc2 hC nX0_36 dX0_move_5 ?_
  refine lv_lload_n hx hb dX0_move_8 rfl (lv_at hl 1 rfl) ?_
  refine lv_lmul hx hb dX0_move_9 ?_
  refine lv_lsub hx hb dX0_move_10 ?_
  refine lv_aload_n hx hb dX0_move_11 rfl (lv_at hl 0 rfl) ?_
  refine q_get hC hW kX0_18 (i + 21) (Lg_f0 cc ad S i (by omega)) (v := .int (S.1 10 i)) rfl dX0_move_12 ?_
  refine lv_i2l hx hb dX0_move_15 rfl ?_
  refine q_SL hC hW (c_X11_quotient l D cc _ (((S.1 9 i).toInt64) - (2 * x)) ((S.1 10 i).toInt64)) mX0_38 (by decide) rfl hl.1 rfl (Nat.le_of_ble_eq_true rfl) (by decide) dX0_move_16 (fun H locs hW => ?_)
  refine q_ldc2 hC nX0_42 dX0_move_19 ?_
  refine q_ldc2 hC nX0_44 dX0_move_22 ?_
  refine q_SL hC hW (c_X11_limit l D cc _ (sX11_quotient (((S.1 9 i).toInt64) - (2 * x)) ((S.1 10 i).toInt64)) (-500) 500) mX0_46 (by decide) rfl hl.1 rfl (Nat.le_of_ble_eq_true rfl) (by decide) dX0_move_25 (fun H locs hW => ?_)
  refine lv_lstore_n (lv' := [(3, .long (sX11_limit (sX11_quotient (((S.1 9 i).toInt64) - (2 * x)) ((S.1 10 i).toInt64)) (-500) 500)), (0, .ref (ad (i + 21))), (1, .long x)]) hx hb dX0_move_28 rfl hl (by decide) rfl (fun ls hl => ?_)
  refine lv_aload_n hx hb dX0_move_29 rfl (lv_at hl 1 rfl) ?_
  refine lv_aload_n hx hb dX0_move_30 rfl (lv_at hl 1 rfl) ?_
  refine q_get hC hW kX0_30 (i + 21) (Lg_f0 cc ad S i (by omega)) (v := .int (S.1 13 i)) rfl dX0_move_31 ?_
  refine lv_i2l hx hb dX0_move_34 rfl ?_
  refine lv_lload_n hx hb dX0_move_35 rfl (lv_at hl 0 rfl) ?_
  refine lv_ladd hx hb dX0_move_36 ?_
  refine lv_lconst (v := 0) hx hb dX0_move_37 rfl ?_
  refine lv_aload_n hx hb dX0_move_38 rfl (lv_at hl 1 rfl) ?_
  refine q_get hC hW kX0_9 (i + 21) (Lg_f0 cc ad S i (by omega)) (v := .int (S.1 8 i)) rfl dX0_move_39 ?_
  refine lv_i2l hx hb dX0_move_42 rfl ?_
  refine q_SL hC hW (c_X11_limit l D cc _ (((S.1 13 i).toInt64) + (sX11_limit (sX11_quotient (((S.1 9 i).toInt64) - (2 * x)) ((S.1 10 i).toInt64)) (-500) 500)) 0 ((S.1 8 i).toInt64)) mX0_46 (by decide) rfl hl.1 rfl (Nat.le_of_ble_eq_true rfl) (by decide) dX0_move_43 (fun H locs hW => ?_)
  refine lv_l2i hx hb dX0_move_46 rfl ?_
  refine q_putI hC hW kX0_30 (i + 21) (Lg_f0 cc ad S i (by omega)) (Ls_f0_5 cc ad S i (by omega) ((sX11_limit (((S.1 13 i).toInt64) + (sX11_limit (sX11_quotient (((S.1 9 i).toInt64) - (2 * x)) ((S.1 10 i).toInt64)) (-500) 500)) 0 ((S.1 8 i).toInt64)).toInt32)) (Nat.le_of_ble_eq_true rfl) dX0_move_47 (fun H locs hW => ?_)
  refine lv_aload_n hx hb dX0_move_50 rfl (lv_at hl 1 rfl) ?_
  refine lv_aload_n hx hb dX0_move_51 rfl (lv_at hl 1 rfl) ?_
  refine q_get hC hW kX0_33 (i + 21) (Lg_f0 cc ad (sI S 13 i ((sX11_limit (((S.1 13 i).toInt64) + (sX11_limit (sX11_quotient (((S.1 9 i).toInt64) - (2 * x)) ((S.1 10 i).toInt64)) (-500) 500)) 0 ((S.1 8 i).toInt64)).toInt32)) i (by omega)) (v := .int (S.1 14 i)) rfl dX0_move_52 ?_
  refine lv_i2l hx hb dX0_move_55 rfl ?_
  refine lv_aload_n hx hb dX0_move_56 rfl (lv_at hl 1 rfl) ?_
  refine q_VI hC hW (c_X0_error l D cc ad (sI S 13 i ((sX11_limit (((S.1 13 i).toInt64) + (sX11_limit (sX11_quotient (((S.1 9 i).toInt64) - (2 * x)) ((S.1 10 i).toInt64)) (-500) 500)) 0 ((S.1 8 i).toInt64)).toInt32)) i (by omega)) mX0_50 (i + 21) (Lg_f0 cc ad (sI S 13 i ((sX11_limit (((S.1 13 i).toInt64) + (sX11_limit (sX11_quotient (((S.1 9 i).toInt64) - (2 * x)) ((S.1 10 i).toInt64)) (-500) 500)) 0 ((S.1 8 i).toInt64)).toInt32)) i (by omega)) rfl (by decide) rfl hl.1 rfl (Nat.le_of_ble_eq_true rfl) (by decide) dX0_move_57 (fun H locs hW => ?_)
  refine lv_i2l hx hb dX0_move_60 rfl ?_
  refine lv_ladd hx hb dX0_move_61 ?_
  refine q_ldc2 hC nX0_54 dX0_move_62 ?_
  refine q_ldc2 hC nX0_56 dX0_move_65 ?_
  refine q_SL hC hW (c_X11_limit l D cc _ (((S.1 14 i).toInt64) + ((sX0_error (sI S 13 i ((sX11_limit (((S.1 13 i).toInt64) + (sX11_limit (sX11_quotient (((S.1 9 i).toInt64) - (2 * x)) ((S.1 10 i).toInt64)) (-500) 500)) 0 ((S.1 8 i).toInt64)).toInt32)) i).toInt64)) (-1000000) 1000000) mX0_46 (by decide) rfl hl.1 rfl (Nat.le_of_ble_eq_true rfl) (by decide) dX0_move_68 (fun H locs hW => ?_)
  refine lv_l2i hx hb dX0_move_71 rfl ?_
  refine q_putI hC hW kX0_33 (i + 21) (Lg_f0 cc ad (sI S 13 i ((sX11_limit (((S.1 13 i).toInt64) + (sX11_limit (sX11_quotient (((S.1 9 i).toInt64) - (2 * x)) ((S.1 10 i).toInt64)) (-500) 500)) 0 ((S.1 8 i).toInt64)).toInt32)) i (by omega)) (Ls_f0_6 cc ad (sI S 13 i ((sX11_limit (((S.1 13 i).toInt64) + (sX11_limit (sX11_quotient (((S.1 9 i).toInt64) - (2 * x)) ((S.1 10 i).toInt64)) (-500) 500)) 0 ((S.1 8 i).toInt64)).toInt32)) i (by omega) ((sX11_limit (((S.1 14 i).toInt64) + ((sX0_error (sI S 13 i ((sX11_limit (((S.1 13 i).toInt64) + (sX11_limit (sX11_quotient (((S.1 9 i).toInt64) - (2 * x)) ((S.1 10 i).toInt64)) (-500) 500)) 0 ((S.1 8 i).toInt64)).toInt32)) i).toInt64)) (-1000000) 1000000).toInt32)) (Nat.le_of_ble_eq_true rfl) dX0_move_72 (fun H locs hW => ?_)
  exact hend _ _ _ _ _ (by unfold sX0_move_S; rfl) hW dX0_move_75
theorem n_X0_move (S : St) (i : Nat) (x : Int64) : (sX0_move_S S i x).1 0 0 = S.1 0 0 := rfl
def sX0_trim (S : St) (i : Nat) : Int32 := ((sX11_limit ((sJ9_floorDiv_f86c9 (((S.1 11 i).toInt64) * ((sX0_error S i).toInt64)) 1000) + (sJ9_floorDiv_f86c9 (((S.1 12 i).toInt64) * ((S.1 14 i).toInt64)) 1000000)) (-2000) 2000).toInt32)
set_option maxHeartbeats 4000000 in
set_option maxRecDepth 100000 in
theorem c_X0_trim (l : Launch) (D : va_G) (cc : Nat → ClassId) (ad : Nat → Nat) (S : St) (i : Nat) (hi : i < 6) : CtI l D cc yX0_trim cX0_trim 3 .int 2 [.ref (ad (i + 21))] (LW cc ad S) (sX0_trim S i) (LW cc ad S) := by
  refine CtI.of (plainFor_of_name (by decide +kernel)) rfl (Nat.le_of_ble_eq_true rfl) ?_
  intro p e s m args below meth c A Q hC hW hend ls hl
  obtain ⟨⟨hx, hb, hml, hown, hts⟩, hNW⟩ := id hC
  have hl : lv_has ls 3 [(0, .ref (ad (i + 21)))] := hl
  refine lv_aload_n hx hb dX0_trim_0 rfl (lv_at hl 0 rfl) ?_
  refine q_get hC hW kX0_21 (i + 21) (Lg_f0 cc ad S i (by omega)) (v := .int (S.1 11 i)) rfl dX0_trim_1 ?_
  refine lv_i2l hx hb dX0_trim_4 rfl ?_
  refine lv_aload_n hx hb dX0_trim_5 rfl (lv_at hl 0 rfl) ?_
  refine q_VI hC hW (c_X0_error l D cc ad S i (by omega)) mX0_50 (i + 21) (Lg_f0 cc ad S i (by omega)) rfl (by decide) rfl hl.1 rfl (Nat.le_of_ble_eq_true rfl) (by decide) dX0_trim_6 (fun H locs hW => ?_)
  refine lv_i2l hx hb dX0_trim_9 rfl ?_
  refine lv_lmul hx hb dX0_trim_10 ?_
  refine q_ldc2 hC nX0_58 dX0_trim_11 ?_
  refine q_SL hC hW (c_J9_floorDiv_f86c9 l D cc _ (((S.1 11 i).toInt64) * ((sX0_error S i).toInt64)) 1000 (by decide)) mX0_60 (by decide) rfl hl.1 rfl (Nat.le_of_ble_eq_true rfl) (by decide) dX0_trim_14 (fun H locs hW => ?_)
  refine lv_aload_n hx hb dX0_trim_17 rfl (lv_at hl 0 rfl) ?_
  refine q_get hC hW kX0_24 (i + 21) (Lg_f0 cc ad S i (by omega)) (v := .int (S.1 12 i)) rfl dX0_trim_18 ?_
  refine lv_i2l hx hb dX0_trim_21 rfl ?_
  refine lv_aload_n hx hb dX0_trim_22 rfl (lv_at hl 0 rfl) ?_
  refine q_get hC hW kX0_33 (i + 21) (Lg_f0 cc ad S i (by omega)) (v := .int (S.1 14 i)) rfl dX0_trim_23 ?_
  refine lv_i2l hx hb dX0_trim_26 rfl ?_
  refine lv_lmul hx hb dX0_trim_27 ?_
  refine q_ldc2 hC nX0_56 dX0_trim_28 ?_
  refine q_SL hC hW (c_J9_floorDiv_f86c9 l D cc _ (((S.1 12 i).toInt64) * ((S.1 14 i).toInt64)) 1000000 (by decide)) mX0_60 (by decide) rfl hl.1 rfl (Nat.le_of_ble_eq_true rfl) (by decide) dX0_trim_31 (fun H locs hW => ?_)
  refine lv_ladd hx hb dX0_trim_34 ?_
  refine lv_lstore_n (lv' := [(1, .long ((sJ9_floorDiv_f86c9 (((S.1 11 i).toInt64) * ((sX0_error S i).toInt64)) 1000) + (sJ9_floorDiv_f86c9 (((S.1 12 i).toInt64) * ((S.1 14 i).toInt64)) 1000000))), (0, .ref (ad (i + 21)))]) hx hb dX0_trim_35 rfl hl (by decide) rfl (fun ls hl => ?_)
  refine lv_lload_n hx hb dX0_trim_36 rfl (lv_at hl 0 rfl) ?_
  refine q_ldc2 hC nX0_65 dX0_trim_37 ?_
  refine q_ldc2 hC nX0_67 dX0_trim_40 ?_
  refine q_SL hC hW (c_X11_limit l D cc _ ((sJ9_floorDiv_f86c9 (((S.1 11 i).toInt64) * ((sX0_error S i).toInt64)) 1000) + (sJ9_floorDiv_f86c9 (((S.1 12 i).toInt64) * ((S.1 14 i).toInt64)) 1000000)) (-2000) 2000) mX0_46 (by decide) rfl hl.1 rfl (Nat.le_of_ble_eq_true rfl) (by decide) dX0_trim_43 (fun H locs hW => ?_)
  refine lv_l2i hx hb dX0_trim_46 rfl ?_
  exact hend _ _ _ _ _ _ (by unfold sX0_trim; rfl) rfl hW dX0_trim_47
def sX8_length (S : St) (i : Nat) : Int64 := (if (S.1 6 i) = 1 then (((S.1 5 i).toInt64) + (2 * ((S.1 13 i).toInt64))) else ((S.1 5 i).toInt64))
set_option maxHeartbeats 4000000 in
set_option maxRecDepth 100000 in
theorem c_X8_length (l : Launch) (D : va_G) (cc : Nat → ClassId) (ad : Nat → Nat) (S : St) (i : Nat) (hi : i < 6) : CtL l D cc yX8_length cX8_length 1 0 [.ref (ad (i + 15))] (LW cc ad S) (sX8_length S i) (LW cc ad S) := by
  refine CtL.of (plainFor_of_name (by decide +kernel)) (Nat.le_of_ble_eq_true rfl) ?_
  intro p e s m args below meth c A Q hC hW hend ls hl
  obtain ⟨⟨hx, hb, hml, hown, hts⟩, hNW⟩ := id hC
  have hl : lv_has ls 1 [(0, .ref (ad (i + 15)))] := hl
  refine lv_aload_n hx hb dX8_length_0 rfl (lv_at hl 0 rfl) ?_
  refine q_get hC hW kX8_29 (i + 15) (Lg_f8 cc ad S i (by omega)) (v := .int (S.1 6 i)) rfl dX8_length_1 ?_
  refine lv_iconst (v := 1) hx hb dX8_length_4 (by decide) ?_
  refine lv_icmp_ne (tgt := 29) hx hb dX8_length_5 (by decide) (fun c_5 => ?_) (fun c_5 => ?_)
  · skip
    refine lv_aload_n hx hb dX8_length_29 rfl (lv_at hl 0 rfl) ?_
    refine q_get hC hW kX8_25 (i + 15) (Lg_f8 cc ad S i (by omega)) (v := .int (S.1 5 i)) rfl dX8_length_30 ?_
    refine lv_i2l hx hb dX8_length_33 rfl ?_
    exact hend _ _ _ _ _ _ (by simp only [sX8_length, if_neg c_5]) rfl hW dX8_length_34
  · skip
    refine lv_aload_n hx hb dX8_length_8 rfl (lv_at hl 0 rfl) ?_
    refine q_get hC hW kX8_25 (i + 15) (Lg_f8 cc ad S i (by omega)) (v := .int (S.1 5 i)) rfl dX8_length_9 ?_
    refine lv_i2l hx hb dX8_length_12 rfl ?_
    refine q_ldc2 hC nX8_56 dX8_length_13 ?_
    refine lv_aload_n hx hb dX8_length_16 rfl (lv_at hl 0 rfl) ?_
    refine q_get hC hW kX8_12 (i + 15) (Lg_f8 cc ad S i (by omega)) (v := .ref (ad (i + 21))) rfl dX8_length_17 ?_
    refine q_get hC hW kX8_58 (i + 21) (Lg_f0 cc ad S i (by omega)) (v := .int (S.1 13 i)) rfl dX8_length_20 ?_
    refine lv_i2l hx hb dX8_length_23 rfl ?_
    refine lv_lmul hx hb dX8_length_24 ?_
    refine lv_ladd hx hb dX8_length_25 ?_
    refine lv_goto (tgt := 34) hx hb dX8_length_26 (by decide) ?_
    exact hend _ _ _ _ _ _ (by simp only [sX8_length, if_pos c_5]) rfl hW dX8_length_34
def sX8_begin_S (S : St) (i : Nat) (x : Int32) : St := (sI (sJ (sJ (sI (sI S 5 i x) 6 i 0) 3 i (x.toInt64)) 4 i 0) 7 i 0)
set_option maxHeartbeats 4000000 in
set_option maxRecDepth 100000 in
theorem c_X8_begin (l : Launch) (D : va_G) (cc : Nat → ClassId) (ad : Nat → Nat) (S : St) (i : Nat) (x : Int32) (hi : i < 6) : CtV l D cc yX8_begin cX8_begin 2 0 [.ref (ad (i + 15)), .int x] (LW cc ad S) (LW cc ad (sX8_begin_S S i x)) := by
  refine CtV.of (plainFor_of_name (by decide +kernel)) (Nat.le_of_ble_eq_true rfl) ?_
  intro p e s m args below meth c A Q hC hW hend ls hl
  obtain ⟨⟨hx, hb, hml, hown, hts⟩, hNW⟩ := id hC
  have hl : lv_has ls 2 [(0, .ref (ad (i + 15))), (1, .int x)] := hl
  refine lv_aload_n hx hb dX8_begin_0 rfl (lv_at hl 0 rfl) ?_
  refine lv_iload_n hx hb dX8_begin_1 rfl (lv_at hl 1 rfl) ?_
  refine q_putI hC hW kX8_25 (i + 15) (Lg_f8 cc ad S i (by omega)) (Ls_f8_2 cc ad S i (by omega) x) (Nat.le_of_ble_eq_true rfl) dX8_begin_2 (fun H locs hW => ?_)
  refine lv_aload_n hx hb dX8_begin_5 rfl (lv_at hl 0 rfl) ?_
  refine lv_iconst (v := 0) hx hb dX8_begin_6 (by decide) ?_
  refine q_putI hC hW kX8_29 (i + 15) (Lg_f8 cc ad (sI S 5 i x) i (by omega)) (Ls_f8_3 cc ad (sI S 5 i x) i (by omega) 0) (Nat.le_of_ble_eq_true rfl) dX8_begin_7 (fun H locs hW => ?_)
  refine lv_aload_n hx hb dX8_begin_10 rfl (lv_at hl 0 rfl) ?_
  refine lv_iload_n hx hb dX8_begin_11 rfl (lv_at hl 1 rfl) ?_
  refine lv_i2l hx hb dX8_begin_12 rfl ?_
  refine q_putL hC hW kX8_32 (i + 15) (Lg_f8 cc ad (sI (sI S 5 i x) 6 i 0) i (by omega)) (Ls_f8_4 cc ad (sI (sI S 5 i x) 6 i 0) i (by omega) (x.toInt64)) (Nat.le_of_ble_eq_true rfl) dX8_begin_13 (fun H locs hW => ?_)
  refine lv_aload_n hx hb dX8_begin_16 rfl (lv_at hl 0 rfl) ?_
  refine lv_lconst (v := 0) hx hb dX8_begin_17 rfl ?_
  refine q_putL hC hW kX8_36 (i + 15) (Lg_f8 cc ad (sJ (sI (sI S 5 i x) 6 i 0) 3 i (x.toInt64)) i (by omega)) (Ls_f8_5 cc ad (sJ (sI (sI S 5 i x) 6 i 0) 3 i (x.toInt64)) i (by omega) 0) (Nat.le_of_ble_eq_true rfl) dX8_begin_18 (fun H locs hW => ?_)
  refine lv_aload_n hx hb dX8_begin_21 rfl (lv_at hl 0 rfl) ?_
  refine lv_iconst (v := 0) hx hb dX8_begin_22 (by decide) ?_
  refine q_putI hC hW kX8_39 (i + 15) (Lg_f8 cc ad (sJ (sJ (sI (sI S 5 i x) 6 i 0) 3 i (x.toInt64)) 4 i 0) i (by omega)) (Ls_f8_6 cc ad (sJ (sJ (sI (sI S 5 i x) 6 i 0) 3 i (x.toInt64)) 4 i 0) i (by omega) 0) (Nat.le_of_ble_eq_true rfl) dX8_begin_23 (fun H locs hW => ?_)
  exact hend _ _ _ _ _ (by unfold sX8_begin_S; rfl) hW dX8_begin_26
theorem n_X8_begin (S : St) (i : Nat) (x : Int32) : (sX8_begin_S S i x).1 0 0 = S.1 0 0 := rfl
def sX8_equip (S : St) (i : Nat) (x : Int32) : Int32 := (if (S.1 6 i) = 0 then 0 else 1)
def sX8_equip_S (S : St) (i : Nat) (x : Int32) : St := (sJ (sI S 6 i x) 3 i (sX8_length (sI S 6 i x) i))
set_option maxHeartbeats 4000000 in
set_option maxRecDepth 100000 in
theorem c_X8_equip (l : Launch) (D : va_G) (cc : Nat → ClassId) (ad : Nat → Nat) (S : St) (i : Nat) (x : Int32) (hi : i < 6) : CtI l D cc yX8_equip cX8_equip 3 .int 1 [.ref (ad (i + 15)), .int x] (LW cc ad S) (sX8_equip S i x) (LW cc ad (sX8_equip_S S i x)) := by
  refine CtI.of (plainFor_of_name (by decide +kernel)) rfl (Nat.le_of_ble_eq_true rfl) ?_
  intro p e s m args below meth c A Q hC hW hend ls hl
  obtain ⟨⟨hx, hb, hml, hown, hts⟩, hNW⟩ := id hC
  have hl : lv_has ls 3 [(0, .ref (ad (i + 15))), (1, .int x)] := hl
  refine lv_aload_n hx hb dX8_equip_0 rfl (lv_at hl 0 rfl) ?_
  refine q_get hC hW kX8_29 (i + 15) (Lg_f8 cc ad S i (by omega)) (v := .int (S.1 6 i)) rfl dX8_equip_1 ?_
  refine lv_if_ne (tgt := 11) hx hb dX8_equip_4 (by decide) (fun c_4 => ?_) (fun c_4 => ?_)
  · skip
    refine lv_iconst (v := 1) hx hb dX8_equip_11 (by decide) ?_
    refine lv_istore_n (lv' := [(2, .int 1), (0, .ref (ad (i + 15))), (1, .int x)]) hx hb dX8_equip_12 rfl hl (by decide) rfl (fun ls hl => ?_)
    refine lv_aload_n hx hb dX8_equip_13 rfl (lv_at hl 1 rfl) ?_
    refine lv_iload_n hx hb dX8_equip_14 rfl (lv_at hl 2 rfl) ?_
    refine q_putI hC hW kX8_29 (i + 15) (Lg_f8 cc ad S i (by omega)) (Ls_f8_3 cc ad S i (by omega) x) (Nat.le_of_ble_eq_true rfl) dX8_equip_15 (fun H locs hW => ?_)
    refine lv_aload_n hx hb dX8_equip_18 rfl (lv_at hl 1 rfl) ?_
    refine lv_aload_n hx hb dX8_equip_19 rfl (lv_at hl 1 rfl) ?_
    refine q_VL hC hW (c_X8_length l D cc ad (sI S 6 i x) i (by omega)) mX8_49 (i + 15) (Lg_f8 cc ad (sI S 6 i x) i (by omega)) rfl (by decide) rfl hl.1 rfl (Nat.le_of_ble_eq_true rfl) (by decide) dX8_equip_20 (fun H locs hW => ?_)
    refine q_putL hC hW kX8_32 (i + 15) (Lg_f8 cc ad (sI S 6 i x) i (by omega)) (Ls_f8_4 cc ad (sI S 6 i x) i (by omega) (sX8_length (sI S 6 i x) i)) (Nat.le_of_ble_eq_true rfl) dX8_equip_23 (fun H locs hW => ?_)
    refine lv_iload_n hx hb dX8_equip_26 rfl (lv_at hl 0 rfl) ?_
    exact hend _ _ _ _ _ _ (by simp only [sX8_equip, if_neg c_4]) (by simp only [sX8_equip_S, if_neg c_4]) hW dX8_equip_27
  · skip
    refine lv_iconst (v := 0) hx hb dX8_equip_7 (by decide) ?_
    refine lv_goto (tgt := 12) hx hb dX8_equip_8 (by decide) ?_
    refine lv_istore_n (lv' := [(2, .int 0), (0, .ref (ad (i + 15))), (1, .int x)]) hx hb dX8_equip_12 rfl hl (by decide) rfl (fun ls hl => ?_)
    refine lv_aload_n hx hb dX8_equip_13 rfl (lv_at hl 1 rfl) ?_
    refine lv_iload_n hx hb dX8_equip_14 rfl (lv_at hl 2 rfl) ?_
    refine q_putI hC hW kX8_29 (i + 15) (Lg_f8 cc ad S i (by omega)) (Ls_f8_3 cc ad S i (by omega) x) (Nat.le_of_ble_eq_true rfl) dX8_equip_15 (fun H locs hW => ?_)
    refine lv_aload_n hx hb dX8_equip_18 rfl (lv_at hl 1 rfl) ?_
    refine lv_aload_n hx hb dX8_equip_19 rfl (lv_at hl 1 rfl) ?_
    refine q_VL hC hW (c_X8_length l D cc ad (sI S 6 i x) i (by omega)) mX8_49 (i + 15) (Lg_f8 cc ad (sI S 6 i x) i (by omega)) rfl (by decide) rfl hl.1 rfl (Nat.le_of_ble_eq_true rfl) (by decide) dX8_equip_20 (fun H locs hW => ?_)
    refine q_putL hC hW kX8_32 (i + 15) (Lg_f8 cc ad (sI S 6 i x) i (by omega)) (Ls_f8_4 cc ad (sI S 6 i x) i (by omega) (sX8_length (sI S 6 i x) i)) (Nat.le_of_ble_eq_true rfl) dX8_equip_23 (fun H locs hW => ?_)
    refine lv_iload_n hx hb dX8_equip_26 rfl (lv_at hl 0 rfl) ?_
    exact hend _ _ _ _ _ _ (by simp only [sX8_equip, if_pos c_4]) (by simp only [sX8_equip_S, if_pos c_4]) hW dX8_equip_27
def sX8_threadAnew_S (S : St) (i : Nat) : St := (sI (sJ (sX0_centre_S S i) 3 i (sX8_length (sX0_centre_S S i) i)) 7 i 0)
set_option maxHeartbeats 4000000 in
set_option maxRecDepth 100000 in
theorem c_X8_threadAnew (l : Launch) (D : va_G) (cc : Nat → ClassId) (ad : Nat → Nat) (S : St) (i : Nat) (hi : i < 6) : CtV l D cc yX8_threadAnew cX8_threadAnew 1 1 [.ref (ad (i + 15))] (LW cc ad S) (LW cc ad (sX8_threadAnew_S S i)) := by
  refine CtV.of (plainFor_of_name (by decide +kernel)) (Nat.le_of_ble_eq_true rfl) ?_
  intro p e s m args below meth c A Q hC hW hend ls hl
  obtain ⟨⟨hx, hb, hml, hown, hts⟩, hNW⟩ := id hC
  have hl : lv_has ls 1 [(0, .ref (ad (i + 15)))] := hl
  refine lv_aload_n hx hb dX8_threadAnew_0 rfl (lv_at hl 0 rfl) ?_
  refine q_get hC hW kX8_12 (i + 15) (Lg_f8 cc ad S i (by omega)) (v := .ref (ad (i + 21))) rfl dX8_threadAnew_1 ?_
  refine q_VV hC hW (c_X0_centre l D cc ad S i (by omega)) mX8_53 (i + 21) (Lg_f0 cc ad S i (by omega)) rfl (by decide) rfl hl.1 rfl (Nat.le_of_ble_eq_true rfl) (by decide) dX8_threadAnew_4 (fun H locs hW => ?_)
  refine lv_aload_n hx hb dX8_threadAnew_7 rfl (lv_at hl 0 rfl) ?_
  refine lv_aload_n hx hb dX8_threadAnew_8 rfl (lv_at hl 0 rfl) ?_
  refine q_VL hC hW (c_X8_length l D cc ad (sX0_centre_S S i) i (by omega)) mX8_49 (i + 15) (Lg_f8 cc ad (sX0_centre_S S i) i (by omega)) rfl (by decide) rfl hl.1 rfl (Nat.le_of_ble_eq_true rfl) (by decide) dX8_threadAnew_9 (fun H locs hW => ?_)
  refine q_putL hC hW kX8_32 (i + 15) (Lg_f8 cc ad (sX0_centre_S S i) i (by omega)) (Ls_f8_4 cc ad (sX0_centre_S S i) i (by omega) (sX8_length (sX0_centre_S S i) i)) (Nat.le_of_ble_eq_true rfl) dX8_threadAnew_12 (fun H locs hW => ?_)
  refine lv_aload_n hx hb dX8_threadAnew_15 rfl (lv_at hl 0 rfl) ?_
  refine lv_iconst (v := 0) hx hb dX8_threadAnew_16 (by decide) ?_
  refine q_putI hC hW kX8_39 (i + 15) (Lg_f8 cc ad (sJ (sX0_centre_S S i) 3 i (sX8_length (sX0_centre_S S i) i)) i (by omega)) (Ls_f8_6 cc ad (sJ (sX0_centre_S S i) 3 i (sX8_length (sX0_centre_S S i) i)) i (by omega) 0) (Nat.le_of_ble_eq_true rfl) dX8_threadAnew_17 (fun H locs hW => ?_)
  exact hend _ _ _ _ _ (by unfold sX8_threadAnew_S; rfl) hW dX8_threadAnew_20
theorem n_X8_threadAnew (S : St) (i : Nat) : (sX8_threadAnew_S S i).1 0 0 = S.1 0 0 := rfl
def sX8_tensionAt (S : St) (i : Nat) (x : Int32) : Int64 := (if (sX8_length S i) ≤ (S.2 3 i) then 0 else (sX11_quotient ((x.toInt64) * ((sX8_length S i) - (S.2 3 i))) (S.2 3 i)))
set_option maxHeartbeats 4000000 in
set_option maxRecDepth 100000 in
theorem c_X8_tensionAt (l : Launch) (D : va_G) (cc : Nat → ClassId) (ad : Nat → Nat) (S : St) (i : Nat) (x : Int32) (hi : i < 6) : CtL l D cc yX8_tensionAt cX8_tensionAt 4 2 [.ref (ad (i + 15)), .int x] (LW cc ad S) (sX8_tensionAt S i x) (LW cc ad S) := by
  refine CtL.of (plainFor_of_name (by decide +kernel)) (Nat.le_of_ble_eq_true rfl) ?_
  intro p e s m args below meth c A Q hC hW hend ls hl
  obtain ⟨⟨hx, hb, hml, hown, hts⟩, hNW⟩ := id hC
  have hl : lv_has ls 4 [(0, .ref (ad (i + 15))), (1, .int x)] := hl
  refine lv_aload_n hx hb dX8_tensionAt_0 rfl (lv_at hl 0 rfl) ?_
  refine q_VL hC hW (c_X8_length l D cc ad S i (by omega)) mX8_49 (i + 15) (Lg_f8 cc ad S i (by omega)) rfl (by decide) rfl hl.1 rfl (Nat.le_of_ble_eq_true rfl) (by decide) dX8_tensionAt_1 (fun H locs hW => ?_)
  refine lv_lstore_n (lv' := [(2, .long (sX8_length S i)), (0, .ref (ad (i + 15))), (1, .int x)]) hx hb dX8_tensionAt_4 rfl hl (by decide) rfl (fun ls hl => ?_)
  refine lv_lload_n hx hb dX8_tensionAt_5 rfl (lv_at hl 0 rfl) ?_
  refine lv_aload_n hx hb dX8_tensionAt_6 rfl (lv_at hl 1 rfl) ?_
  refine q_get hC hW kX8_32 (i + 15) (Lg_f8 cc ad S i (by omega)) (v := .long (S.2 3 i)) rfl dX8_tensionAt_7 ?_
  refine q_jle (tgt := 33) hC dX8_tensionAt_10 dX8_tensionAt_11 (by decide) (fun c_10 => ?_) (fun c_10 => ?_)
  · skip
    refine lv_lconst (v := 0) hx hb dX8_tensionAt_33 rfl ?_
    exact hend _ _ _ _ _ _ (by simp only [sX8_tensionAt, if_pos c_10]) rfl hW dX8_tensionAt_34
  · skip
    refine lv_iload_n hx hb dX8_tensionAt_14 rfl (lv_at hl 2 rfl) ?_
    refine lv_i2l hx hb dX8_tensionAt_15 rfl ?_
    refine lv_lload_n hx hb dX8_tensionAt_16 rfl (lv_at hl 0 rfl) ?_
    refine lv_aload_n hx hb dX8_tensionAt_17 rfl (lv_at hl 1 rfl) ?_
    refine q_get hC hW kX8_32 (i + 15) (Lg_f8 cc ad S i (by omega)) (v := .long (S.2 3 i)) rfl dX8_tensionAt_18 ?_
    refine lv_lsub hx hb dX8_tensionAt_21 ?_
    refine lv_lmul hx hb dX8_tensionAt_22 ?_
    refine lv_aload_n hx hb dX8_tensionAt_23 rfl (lv_at hl 1 rfl) ?_
    refine q_get hC hW kX8_32 (i + 15) (Lg_f8 cc ad S i (by omega)) (v := .long (S.2 3 i)) rfl dX8_tensionAt_24 ?_
    refine q_SL hC hW (c_X11_quotient l D cc _ ((x.toInt64) * ((sX8_length S i) - (S.2 3 i))) (S.2 3 i)) mX8_61 (by decide) rfl hl.1 rfl (Nat.le_of_ble_eq_true rfl) (by decide) dX8_tensionAt_27 (fun H locs hW => ?_)
    refine lv_goto (tgt := 34) hx hb dX8_tensionAt_30 (by decide) ?_
    exact hend _ _ _ _ _ _ (by simp only [sX8_tensionAt, if_neg c_10]) rfl hW dX8_tensionAt_34
def sX9_begin_S (S : St)  : St := (sJ (sI S 0 13 0) 0 0 0)
set_option maxHeartbeats 4000000 in
set_option maxRecDepth 100000 in
theorem c_X9_begin (l : Launch) (D : va_G) (cc : Nat → ClassId) (ad : Nat → Nat) (S : St) : CtV l D cc yX9_begin cX9_begin 1 0 [.ref (ad 3)] (LW cc ad S) (LW cc ad (sX9_begin_S S )) := by
  refine CtV.of (plainFor_of_name (by decide +kernel)) (Nat.le_of_ble_eq_true rfl) ?_
  intro p e s m args below meth c A Q hC hW hend ls hl
  obtain ⟨⟨hx, hb, hml, hown, hts⟩, hNW⟩ := id hC
  have hl : lv_has ls 1 [(0, .ref (ad 3))] := hl
  refine lv_aload_n hx hb dX9_begin_0 rfl (lv_at hl 0 rfl) ?_
  refine lv_iconst (v := 0) hx hb dX9_begin_1 (by decide) ?_
  refine q_putI hC hW kX9_15 3 (Lg3 cc ad S) (Ls3_1 cc ad S 0) (Nat.le_of_ble_eq_true rfl) dX9_begin_2 (fun H locs hW => ?_)
  refine lv_aload_n hx hb dX9_begin_5 rfl (lv_at hl 0 rfl) ?_
  refine lv_lconst (v := 0) hx hb dX9_begin_6 rfl ?_
  refine q_putL hC hW kX9_19 3 (Lg3 cc ad (sI S 0 13 0)) (Ls3_2 cc ad (sI S 0 13 0) 0) (Nat.le_of_ble_eq_true rfl) dX9_begin_7 (fun H locs hW => ?_)
  exact hend _ _ _ _ _ (by unfold sX9_begin_S; rfl) hW dX9_begin_10
def sX9_put (S : St) (x : Int32) (q : Nat) : Int32 := (if q < 4 then (if (S.2 0 0) = 0 then (if q = 0 then 0 else (nI (q + 1))) else (nI (q + 1))) else (-1000004))
def sX9_put_S (S : St) (x : Int32) (q : Nat) : St := (if q < 4 then (if (S.2 0 0) = 0 then (if q = 0 then (sJ S 0 0 (x.toInt64)) else (sI (sI S 1 q x) 0 13 (nI (q + 1)))) else (sI (sI S 1 q x) 0 13 (nI (q + 1)))) else S)
set_option maxHeartbeats 4000000 in
set_option maxRecDepth 100000 in
theorem c_X9_put (l : Launch) (D : va_G) (cc : Nat → ClassId) (ad : Nat → Nat) (S : St) (x : Int32) (q : Nat) (hq : S.1 0 13 = nI q) (hq4 : q ≤ 4) : CtI l D cc yX9_put cX9_put 2 .int 0 [.ref (ad 3), .int x] (LW cc ad S) (sX9_put S x q) (LW cc ad (sX9_put_S S x q)) := by
  refine CtI.of (plainFor_of_name (by decide +kernel)) rfl (Nat.le_of_ble_eq_true rfl) ?_
  intro p e s m args below meth c A Q hC hW hend ls hl
  obtain ⟨⟨hx, hb, hml, hown, hts⟩, hNW⟩ := id hC
  have hl : lv_has ls 2 [(0, .ref (ad 3)), (1, .int x)] := hl
  refine lv_aload_n hx hb dX9_put_0 rfl (lv_at hl 0 rfl) ?_
  refine q_get hC hW kX9_15 3 (Lg3 cc ad S) (v := .int (nI q)) (congrArg (fun z => some (Value.int z)) hq) dX9_put_1 ?_
  refine lv_aload_n hx hb dX9_put_4 rfl (lv_at hl 0 rfl) ?_
  refine q_get hC hW kX9_9 3 (Lg3 cc ad S) (v := .ref (ad 4)) rfl dX9_put_5 ?_
  refine q_alen hC hW 4 0 (Lg4 cc ad S) rfl (v := 4) rfl dX9_put_8 ?_
  refine q_icmp_lt_n (tgt := 15) hx hb (a := q) (b := 4) rfl rfl (by omega) (by omega) dX9_put_9 (by decide) (fun c_9 => ?_) (fun c_9 => ?_)
  · skip
    refine lv_aload_n hx hb dX9_put_15 rfl (lv_at hl 0 rfl) ?_
    refine q_get hC hW kX9_19 3 (Lg3 cc ad S) (v := .long (S.2 0 0)) rfl dX9_put_16 ?_
    refine lv_lconst (v := 0) hx hb dX9_put_19 rfl ?_
    refine q_jne (tgt := 39) hC dX9_put_20 dX9_put_21 (by decide) (fun c_20 => ?_) (fun c_20 => ?_)
    · skip
      refine lv_aload_n hx hb dX9_put_39 rfl (lv_at hl 0 rfl) ?_
      refine q_get hC hW kX9_9 3 (Lg3 cc ad S) (v := .ref (ad 4)) rfl dX9_put_40 ?_
      refine lv_aload_n hx hb dX9_put_43 rfl (lv_at hl 0 rfl) ?_
      refine q_get hC hW kX9_15 3 (Lg3 cc ad S) (v := .int (nI q)) (congrArg (fun z => some (Value.int z)) hq) dX9_put_44 ?_
      refine lv_iload_n hx hb dX9_put_47 rfl (lv_at hl 1 rfl) ?_
      refine q_iast hC hW 4 (Lg4 cc ad S) q rfl (by omega) (by decide) (Ls4 cc ad S q x) dX9_put_48 (fun H locs hW => ?_)
      refine lv_aload_n hx hb dX9_put_49 rfl (lv_at hl 0 rfl) ?_
      refine lv_dup hx hb dX9_put_50 rfl ?_
      refine q_get hC hW kX9_15 3 (Lg3 cc ad (sI S 1 q x)) (v := .int (nI q)) (congrArg (fun z => some (Value.int z)) hq) dX9_put_51 ?_
      refine lv_iconst (v := 1) hx hb dX9_put_54 (by decide) ?_
      refine lv_iadd hx hb dX9_put_55 ?_
      refine q_ri (v := nI (q + 1)) (nq_add (a := q) (b := 1) rfl rfl) ?_
      refine q_putI hC hW kX9_15 3 (Lg3 cc ad (sI S 1 q x)) (Ls3_1 cc ad (sI S 1 q x) (nI (q + 1))) (Nat.le_of_ble_eq_true rfl) dX9_put_56 (fun H locs hW => ?_)
      refine lv_aload_n hx hb dX9_put_59 rfl (lv_at hl 0 rfl) ?_
      refine q_get hC hW kX9_15 3 (Lg3 cc ad (sI (sI S 1 q x) 0 13 (nI (q + 1)))) (v := .int (nI (q + 1))) rfl dX9_put_60 ?_
      exact hend _ _ _ _ _ _ (by simp only [sX9_put, if_pos c_9, if_neg c_20]) (by simp only [sX9_put_S, if_pos c_9, if_neg c_20]) hW dX9_put_63
    · skip
      refine lv_aload_n hx hb dX9_put_24 rfl (lv_at hl 0 rfl) ?_
      refine q_get hC hW kX9_15 3 (Lg3 cc ad S) (v := .int (nI q)) (congrArg (fun z => some (Value.int z)) hq) dX9_put_25 ?_
      refine q_if_ne_n (tgt := 39) hx hb (a := q) rfl (by omega) dX9_put_28 (by decide) (fun c_28 => ?_) (fun c_28 => ?_)
      · skip
        refine lv_aload_n hx hb dX9_put_39 rfl (lv_at hl 0 rfl) ?_
        refine q_get hC hW kX9_9 3 (Lg3 cc ad S) (v := .ref (ad 4)) rfl dX9_put_40 ?_
        refine lv_aload_n hx hb dX9_put_43 rfl (lv_at hl 0 rfl) ?_
        refine q_get hC hW kX9_15 3 (Lg3 cc ad S) (v := .int (nI q)) (congrArg (fun z => some (Value.int z)) hq) dX9_put_44 ?_
        refine lv_iload_n hx hb dX9_put_47 rfl (lv_at hl 1 rfl) ?_
        refine q_iast hC hW 4 (Lg4 cc ad S) q rfl (by omega) (by decide) (Ls4 cc ad S q x) dX9_put_48 (fun H locs hW => ?_)
        refine lv_aload_n hx hb dX9_put_49 rfl (lv_at hl 0 rfl) ?_
        refine lv_dup hx hb dX9_put_50 rfl ?_
        refine q_get hC hW kX9_15 3 (Lg3 cc ad (sI S 1 q x)) (v := .int (nI q)) (congrArg (fun z => some (Value.int z)) hq) dX9_put_51 ?_
        refine lv_iconst (v := 1) hx hb dX9_put_54 (by decide) ?_
        refine lv_iadd hx hb dX9_put_55 ?_
        refine q_ri (v := nI (q + 1)) (nq_add (a := q) (b := 1) rfl rfl) ?_
        refine q_putI hC hW kX9_15 3 (Lg3 cc ad (sI S 1 q x)) (Ls3_1 cc ad (sI S 1 q x) (nI (q + 1))) (Nat.le_of_ble_eq_true rfl) dX9_put_56 (fun H locs hW => ?_)
        refine lv_aload_n hx hb dX9_put_59 rfl (lv_at hl 0 rfl) ?_
        refine q_get hC hW kX9_15 3 (Lg3 cc ad (sI (sI S 1 q x) 0 13 (nI (q + 1)))) (v := .int (nI (q + 1))) rfl dX9_put_60 ?_
        exact hend _ _ _ _ _ _ (by simp only [sX9_put, if_pos c_9, if_pos c_20, if_neg c_28]) (by simp only [sX9_put_S, if_pos c_9, if_pos c_20, if_neg c_28]) hW dX9_put_63
      · skip
        refine lv_aload_n hx hb dX9_put_31 rfl (lv_at hl 0 rfl) ?_
        refine lv_iload_n hx hb dX9_put_32 rfl (lv_at hl 1 rfl) ?_
        refine lv_i2l hx hb dX9_put_33 rfl ?_
        refine q_putL hC hW kX9_19 3 (Lg3 cc ad S) (Ls3_2 cc ad S (x.toInt64)) (Nat.le_of_ble_eq_true rfl) dX9_put_34 (fun H locs hW => ?_)
        refine lv_iconst (v := 0) hx hb dX9_put_37 (by decide) ?_
        exact hend _ _ _ _ _ _ (by simp only [sX9_put, if_pos c_9, if_pos c_20, if_pos c_28]) (by simp only [sX9_put_S, if_pos c_9, if_pos c_20, if_pos c_28]) hW dX9_put_38
  · skip
    refine q_ldc hC nX9_29 dX9_put_12 ?_
    exact hend _ _ _ _ _ _ (by simp only [sX9_put, if_neg (Nat.not_lt.mpr c_9)]) (by simp only [sX9_put_S, if_neg (Nat.not_lt.mpr c_9)]) hW dX9_put_14
def sX9_takeNext_S (S : St) (q : Nat) : St := (if q = 0 then S else (sRI (sI (sJ S 0 0 ((S.2 0 0) + ((S.1 1 0).toInt64))) 0 13 (nI (q - 1))) 1 (va_cpy ((sI (sJ S 0 0 ((S.2 0 0) + ((S.1 1 0).toInt64))) 0 13 (nI (q - 1))).1 1) ((sI (sJ S 0 0 ((S.2 0 0) + ((S.1 1 0).toInt64))) 0 13 (nI (q - 1))).1 1) 1 0 (q - 1))))
set_option maxHeartbeats 4000000 in
set_option maxRecDepth 100000 in
theorem c_X9_takeNext (l : Launch) (D : va_G) (cc : Nat → ClassId) (ad : Nat → Nat) (S : St) (q : Nat) (hq : S.1 0 13 = nI q) (hq4 : q ≤ 4) : CtV l D cc yX9_takeNext cX9_takeNext 1 1 [.ref (ad 3)] (LW cc ad S) (LW cc ad (sX9_takeNext_S S q)) := by
  refine CtV.of (plainFor_of_name (by decide +kernel)) (Nat.le_of_ble_eq_true rfl) ?_
  intro p e s m args below meth c A Q hC hW hend ls hl
  obtain ⟨⟨hx, hb, hml, hown, hts⟩, hNW⟩ := id hC
  have hl : lv_has ls 1 [(0, .ref (ad 3))] := hl
  refine lv_aload_n hx hb dX9_takeNext_0 rfl (lv_at hl 0 rfl) ?_
  refine q_get hC hW kX9_15 3 (Lg3 cc ad S) (v := .int (nI q)) (congrArg (fun z => some (Value.int z)) hq) dX9_takeNext_1 ?_
  refine q_if_ne_n (tgt := 8) hx hb (a := q) rfl (by omega) dX9_takeNext_4 (by decide) (fun c_4 => ?_) (fun c_4 => ?_)
  · skip
    refine lv_aload_n hx hb dX9_takeNext_8 rfl (lv_at hl 0 rfl) ?_
    refine lv_dup hx hb dX9_takeNext_9 rfl ?_
    refine q_get hC hW kX9_19 3 (Lg3 cc ad S) (v := .long (S.2 0 0)) rfl dX9_takeNext_10 ?_
    refine lv_aload_n hx hb dX9_takeNext_13 rfl (lv_at hl 0 rfl) ?_
    refine q_get hC hW kX9_9 3 (Lg3 cc ad S) (v := .ref (ad 4)) rfl dX9_takeNext_14 ?_
    refine lv_iconst (v := 0) hx hb dX9_takeNext_17 (by decide) ?_
    refine q_iald hC hW 4 (Lg4 cc ad S) (v := (S.1 1 0)) 0 rfl (by omega) (by decide) rfl dX9_takeNext_18 ?_
    refine lv_i2l hx hb dX9_takeNext_19 rfl ?_
    refine lv_ladd hx hb dX9_takeNext_20 ?_
    refine q_putL hC hW kX9_19 3 (Lg3 cc ad S) (Ls3_2 cc ad S ((S.2 0 0) + ((S.1 1 0).toInt64))) (Nat.le_of_ble_eq_true rfl) dX9_takeNext_21 (fun H locs hW => ?_)
    refine lv_aload_n hx hb dX9_takeNext_24 rfl (lv_at hl 0 rfl) ?_
    refine lv_dup hx hb dX9_takeNext_25 rfl ?_
    refine q_get hC hW kX9_15 3 (Lg3 cc ad (sJ S 0 0 ((S.2 0 0) + ((S.1 1 0).toInt64)))) (v := .int (nI q)) (congrArg (fun z => some (Value.int z)) hq) dX9_takeNext_26 ?_
    refine lv_iconst (v := 1) hx hb dX9_takeNext_29 (by decide) ?_
    refine lv_isub hx hb dX9_takeNext_30 ?_
    refine q_ri (v := nI (q - 1)) (nq_sub (a := q) (b := 1) rfl rfl (by omega)) ?_
    refine q_putI hC hW kX9_15 3 (Lg3 cc ad (sJ S 0 0 ((S.2 0 0) + ((S.1 1 0).toInt64)))) (Ls3_1 cc ad (sJ S 0 0 ((S.2 0 0) + ((S.1 1 0).toInt64))) (nI (q - 1))) (Nat.le_of_ble_eq_true rfl) dX9_takeNext_31 (fun H locs hW => ?_)
    refine lv_aload_n hx hb dX9_takeNext_34 rfl (lv_at hl 0 rfl) ?_
    refine q_get hC hW kX9_9 3 (Lg3 cc ad (sI (sJ S 0 0 ((S.2 0 0) + ((S.1 1 0).toInt64))) 0 13 (nI (q - 1)))) (v := .ref (ad 4)) rfl dX9_takeNext_35 ?_
    refine lv_iconst (v := 1) hx hb dX9_takeNext_38 (by decide) ?_
    refine lv_aload_n hx hb dX9_takeNext_39 rfl (lv_at hl 0 rfl) ?_
    refine q_get hC hW kX9_9 3 (Lg3 cc ad (sI (sJ S 0 0 ((S.2 0 0) + ((S.1 1 0).toInt64))) 0 13 (nI (q - 1)))) (v := .ref (ad 4)) rfl dX9_takeNext_40 ?_
    refine lv_iconst (v := 0) hx hb dX9_takeNext_43 (by decide) ?_
    refine lv_aload_n hx hb dX9_takeNext_44 rfl (lv_at hl 0 rfl) ?_
    refine q_get hC hW kX9_15 3 (Lg3 cc ad (sI (sJ S 0 0 ((S.2 0 0) + ((S.1 1 0).toInt64))) 0 13 (nI (q - 1)))) (v := .int (nI (q - 1))) rfl dX9_takeNext_45 ?_
    refine q_copyI hC hW yX9_acopy_23 4 4 (Lg4 cc ad (sI (sJ S 0 0 ((S.2 0 0) + ((S.1 1 0).toInt64))) 0 13 (nI (q - 1)))) (Lg4 cc ad (sI (sJ S 0 0 ((S.2 0 0) + ((S.1 1 0).toInt64))) 0 13 (nI (q - 1)))) (sp := 1) (dp := 0) (n := (q - 1)) rfl rfl rfl (by omega) (by omega) (by omega) (by omega) (by omega) (Lr4 cc ad (sI (sJ S 0 0 ((S.2 0 0) + ((S.1 1 0).toInt64))) 0 13 (nI (q - 1))) (va_cpy ((sI (sJ S 0 0 ((S.2 0 0) + ((S.1 1 0).toInt64))) 0 13 (nI (q - 1))).1 1) ((sI (sJ S 0 0 ((S.2 0 0) + ((S.1 1 0).toInt64))) 0 13 (nI (q - 1))).1 1) 1 0 (q - 1))) hl.1 (by decide) (Nat.le_of_ble_eq_true rfl) dX9_takeNext_48 (fun H locs hW => ?_)
    exact hend _ _ _ _ _ (by simp only [sX9_takeNext_S, if_neg c_4]) hW dX9_takeNext_51
  · skip
    exact hend _ _ _ _ _ (by simp only [sX9_takeNext_S, if_pos c_4]) hW dX9_takeNext_7
def sX9_isSplicePending (S : St) (x : Int32) : Int32 := (if (x.toInt64) < (S.2 0 0) then 0 else (if (S.1 0 13) ≤ 0 then 0 else 1))
set_option maxHeartbeats 4000000 in
set_option maxRecDepth 100000 in
theorem c_X9_isSplicePending (l : Launch) (D : va_G) (cc : Nat → ClassId) (ad : Nat → Nat) (S : St) (x : Int32) : CtI l D cc yX9_isSplicePending cX9_isSplicePending 2 .boolean 0 [.ref (ad 3), .int x] (LW cc ad S) (sX9_isSplicePending S x) (LW cc ad S) := by
  refine CtI.of (plainFor_of_name (by decide +kernel)) (by unfold sX9_isSplicePending; repeat' (first | rfl | split)) (Nat.le_of_ble_eq_true rfl) ?_
  intro p e s m args below meth c A Q hC hW hend ls hl
  obtain ⟨⟨hx, hb, hml, hown, hts⟩, hNW⟩ := id hC
  have hl : lv_has ls 2 [(0, .ref (ad 3)), (1, .int x)] := hl
  refine lv_aload_n hx hb dX9_isSplicePending_0 rfl (lv_at hl 0 rfl) ?_
  refine q_get hC hW kX9_19 3 (Lg3 cc ad S) (v := .long (S.2 0 0)) rfl dX9_isSplicePending_1 ?_
  refine lv_iload_n hx hb dX9_isSplicePending_4 rfl (lv_at hl 1 rfl) ?_
  refine lv_i2l hx hb dX9_isSplicePending_5 rfl ?_
  refine q_jgt (tgt := 21) hC dX9_isSplicePending_6 dX9_isSplicePending_7 (by decide) (fun c_6 => ?_) (fun c_6 => ?_)
  · skip
    refine lv_iconst (v := 0) hx hb dX9_isSplicePending_21 (by decide) ?_
    exact hend _ _ _ _ _ _ (by simp only [sX9_isSplicePending, if_pos c_6]) rfl hW dX9_isSplicePending_22
  · skip
    refine lv_aload_n hx hb dX9_isSplicePending_10 rfl (lv_at hl 0 rfl) ?_
    refine q_get hC hW kX9_15 3 (Lg3 cc ad S) (v := .int (S.1 0 13)) rfl dX9_isSplicePending_11 ?_
    refine lv_if_le (tgt := 21) hx hb dX9_isSplicePending_14 (by decide) (fun c_14 => ?_) (fun c_14 => ?_)
    · skip
      refine lv_iconst (v := 0) hx hb dX9_isSplicePending_21 (by decide) ?_
      exact hend _ _ _ _ _ _ (by simp only [sX9_isSplicePending, if_neg c_6, if_pos c_14]) rfl hW dX9_isSplicePending_22
    · skip
      refine lv_iconst (v := 1) hx hb dX9_isSplicePending_17 (by decide) ?_
      refine lv_goto (tgt := 22) hx hb dX9_isSplicePending_18 (by decide) ?_
      exact hend _ _ _ _ _ _ (by simp only [sX9_isSplicePending, if_neg c_6, if_neg c_14]) rfl hW dX9_isSplicePending_22
def LX9_queuedLength_4_1 (S : St) (q : Nat) : Nat → Int64
  | 0 => 0
  | k + 1 => ((LX9_queuedLength_4_1 S q k) + ((S.1 1 k).toInt64))
def sX9_queuedLength (S : St) (q : Nat) : Int64 := (LX9_queuedLength_4_1 S q q)
set_option maxHeartbeats 4000000 in
set_option maxRecDepth 100000 in
theorem c_X9_queuedLength (l : Launch) (D : va_G) (cc : Nat → ClassId) (ad : Nat → Nat) (S : St) (q : Nat) (hq : S.1 0 13 = nI q) (hq4 : q ≤ 4) : CtL l D cc yX9_queuedLength cX9_queuedLength 4 0 [.ref (ad 3)] (LW cc ad S) (sX9_queuedLength S q) (LW cc ad S) := by
  refine CtL.of (plainFor_of_name (by decide +kernel)) (Nat.le_of_ble_eq_true rfl) ?_
  intro p e s m args below meth c A Q hC hW hend ls hl
  obtain ⟨⟨hx, hb, hml, hown, hts⟩, hNW⟩ := id hC
  have hl : lv_has ls 4 [(0, .ref (ad 3))] := hl
  refine lv_lconst (v := 0) hx hb dX9_queuedLength_0 rfl ?_
  refine lv_lstore_n (lv' := [(1, .long 0), (0, .ref (ad 3))]) hx hb dX9_queuedLength_1 rfl hl (by decide) rfl (fun ls hl => ?_)
  refine lv_iconst (v := 0) hx hb dX9_queuedLength_2 (by decide) ?_
  refine lv_istore_n (lv' := [(3, .int 0), (1, .long 0), (0, .ref (ad 3))]) hx hb dX9_queuedLength_3 rfl hl (by decide) rfl (fun ls hl => ?_)
  have loop1 : ∀ (rn k : Nat), k + rn = q → ∀ (H : Heap) (locs : List Loc) (ls : Array Slot), Wd D cc (LW cc ad S) A s.heap H locs s → lv_has ls 4 [(0, .ref (ad 3)), (1, .long (LX9_queuedLength_4_1 S q k)), (3, .int (nI k))] → W p l e (rmD 0) s m args below meth c H locs 0 0 Q (F0 m 4 ls []) := by
    intro rn
    induction rn with
    | zero =>
      intro k hk H locs ls hW hl
      obtain rfl : q = k := by omega
      refine lv_iload_n hx hb dX9_queuedLength_4 rfl (lv_at hl 2 rfl) ?_
      refine lv_aload_n hx hb dX9_queuedLength_5 rfl (lv_at hl 0 rfl) ?_
      refine q_get hC hW kX9_15 3 (Lg3 cc ad S) (v := .int (nI q)) (congrArg (fun z => some (Value.int z)) hq) dX9_queuedLength_6 ?_
      refine q_icmp_ge_n (tgt := 28) hx hb (a := q) (b := q) rfl rfl (by omega) (by omega) dX9_queuedLength_9 (by decide) (fun c_9 => ?_) (fun c_9 => by exfalso; omega)
      refine lv_lload_n hx hb dX9_queuedLength_28 rfl (lv_at hl 1 rfl) ?_
      exact hend _ _ _ _ _ _ (by unfold sX9_queuedLength; rfl) rfl hW dX9_queuedLength_29
    | succ rn ih =>
      intro k hk H locs ls hW hl
      have hkN : k < q := by omega
      refine lv_iload_n hx hb dX9_queuedLength_4 rfl (lv_at hl 2 rfl) ?_
      refine lv_aload_n hx hb dX9_queuedLength_5 rfl (lv_at hl 0 rfl) ?_
      refine q_get hC hW kX9_15 3 (Lg3 cc ad S) (v := .int (nI q)) (congrArg (fun z => some (Value.int z)) hq) dX9_queuedLength_6 ?_
      refine q_icmp_ge_n (tgt := 28) hx hb (a := k) (b := q) rfl rfl (by omega) (by omega) dX9_queuedLength_9 (by decide) (fun c_9 => by exfalso; omega) (fun c_9 => ?_)
      refine lv_lload_n hx hb dX9_queuedLength_12 rfl (lv_at hl 1 rfl) ?_
      refine lv_aload_n hx hb dX9_queuedLength_13 rfl (lv_at hl 0 rfl) ?_
      refine q_get hC hW kX9_9 3 (Lg3 cc ad S) (v := .ref (ad 4)) rfl dX9_queuedLength_14 ?_
      refine lv_iload_n hx hb dX9_queuedLength_17 rfl (lv_at hl 2 rfl) ?_
      refine q_iald hC hW 4 (Lg4 cc ad S) (v := (S.1 1 k)) k rfl (by omega) (by decide) rfl dX9_queuedLength_18 ?_
      refine lv_i2l hx hb dX9_queuedLength_19 rfl ?_
      refine lv_ladd hx hb dX9_queuedLength_20 ?_
      refine lv_lstore_n (lv' := [(1, .long ((LX9_queuedLength_4_1 S q k) + ((S.1 1 k).toInt64))), (0, .ref (ad 3)), (3, .int (nI k))]) hx hb dX9_queuedLength_21 rfl hl (by decide) rfl (fun ls hl => ?_)
      refine lv_iinc (v := (nI (k + 1))) (lv' := [(3, .int (nI (k + 1))), (1, .long ((LX9_queuedLength_4_1 S q k) + ((S.1 1 k).toInt64))), (0, .ref (ad 3))]) hx hb dX9_queuedLength_22 hl (k := 2) rfl (nq_inc k 1) (by decide) rfl (fun ls hl => ?_)
      refine lv_goto (tgt := 4) hx hb dX9_queuedLength_25 (by decide) ?_
      exact ih (k + 1) (by omega) _ _ _ hW (lv_sub hl [2, 1, 0] (by simp only [LX9_queuedLength_4_1]; rfl))
  exact loop1 q 0 (by omega) _ _ _ hW (lv_sub hl [2, 1, 0] rfl)
def sX5_clearAll_S (S : St)  : St := (sI S 0 16 0)
set_option maxHeartbeats 4000000 in
set_option maxRecDepth 100000 in
theorem c_X5_clearAll (l : Launch) (D : va_G) (cc : Nat → ClassId) (ad : Nat → Nat) (S : St) : CtV l D cc yX5_clearAll cX5_clearAll 1 0 [.ref (ad 6)] (LW cc ad S) (LW cc ad (sX5_clearAll_S S )) := by
  refine CtV.of (plainFor_of_name (by decide +kernel)) (Nat.le_of_ble_eq_true rfl) ?_
  intro p e s m args below meth c A Q hC hW hend ls hl
  obtain ⟨⟨hx, hb, hml, hown, hts⟩, hNW⟩ := id hC
  have hl : lv_has ls 1 [(0, .ref (ad 6))] := hl
  refine lv_aload_n hx hb dX5_clearAll_0 rfl (lv_at hl 0 rfl) ?_
  refine lv_iconst (v := 0) hx hb dX5_clearAll_1 (by decide) ?_
  refine q_putI hC hW kX5_15 6 (Lg6 cc ad S) (Ls6_1 cc ad S 0) (Nat.le_of_ble_eq_true rfl) dX5_clearAll_2 (fun H locs hW => ?_)
  exact hend _ _ _ _ _ (by unfold sX5_clearAll_S; rfl) hW dX5_clearAll_5
theorem n_X5_clearAll (S : St) : (sX5_clearAll_S S).1 0 0 = S.1 0 0 := rfl
def sX5_add_S (S : St) (x : Int64) (mc : Nat) : St := (if 512 ≤ mc then S else (sI (sJ S 1 mc x) 0 16 (nI (mc + 1))))
set_option maxHeartbeats 4000000 in
set_option maxRecDepth 100000 in
theorem c_X5_add (l : Launch) (D : va_G) (cc : Nat → ClassId) (ad : Nat → Nat) (S : St) (x : Int64) (mc : Nat) (hm : S.1 0 16 = nI mc) (hm5 : mc ≤ 512) : CtV l D cc yX5_add cX5_add 3 0 [.ref (ad 6), .long x] (LW cc ad S) (LW cc ad (sX5_add_S S x mc)) := by
  refine CtV.of (plainFor_of_name (by decide +kernel)) (Nat.le_of_ble_eq_true rfl) ?_
  intro p e s m args below meth c A Q hC hW hend ls hl
  obtain ⟨⟨hx, hb, hml, hown, hts⟩, hNW⟩ := id hC
  have hl : lv_has ls 3 [(0, .ref (ad 6)), (1, .long x)] := hl
  refine lv_aload_n hx hb dX5_add_0 rfl (lv_at hl 0 rfl) ?_
  refine q_get hC hW kX5_15 6 (Lg6 cc ad S) (v := .int (nI mc)) (congrArg (fun z => some (Value.int z)) hm) dX5_add_1 ?_
  refine lv_aload_n hx hb dX5_add_4 rfl (lv_at hl 0 rfl) ?_
  refine q_get hC hW kX5_9 6 (Lg6 cc ad S) (v := .ref (ad 7)) rfl dX5_add_5 ?_
  refine q_alen hC hW 7 1 (Lg7 cc ad S) rfl (v := 512) rfl dX5_add_8 ?_
  refine q_icmp_ge_n (tgt := 32) hx hb (a := mc) (b := 512) rfl rfl (by omega) (by omega) dX5_add_9 (by decide) (fun c_9 => ?_) (fun c_9 => ?_)
  · skip
    exact hend _ _ _ _ _ (by simp only [sX5_add_S, if_pos c_9]) hW dX5_add_32
  · skip
    refine lv_aload_n hx hb dX5_add_12 rfl (lv_at hl 0 rfl) ?_
    refine q_get hC hW kX5_9 6 (Lg6 cc ad S) (v := .ref (ad 7)) rfl dX5_add_13 ?_
    refine lv_aload_n hx hb dX5_add_16 rfl (lv_at hl 0 rfl) ?_
    refine q_get hC hW kX5_15 6 (Lg6 cc ad S) (v := .int (nI mc)) (congrArg (fun z => some (Value.int z)) hm) dX5_add_17 ?_
    refine lv_lload_n hx hb dX5_add_20 rfl (lv_at hl 1 rfl) ?_
    refine q_last hC hW 7 (Lg7 cc ad S) mc rfl (by omega) (by decide) (Ls7 cc ad S mc x) dX5_add_21 (fun H locs hW => ?_)
    refine lv_aload_n hx hb dX5_add_22 rfl (lv_at hl 0 rfl) ?_
    refine lv_dup hx hb dX5_add_23 rfl ?_
    refine q_get hC hW kX5_15 6 (Lg6 cc ad (sJ S 1 mc x)) (v := .int (nI mc)) (congrArg (fun z => some (Value.int z)) hm) dX5_add_24 ?_
    refine lv_iconst (v := 1) hx hb dX5_add_27 (by decide) ?_
    refine lv_iadd hx hb dX5_add_28 ?_
    refine q_ri (v := nI (mc + 1)) (nq_add (a := mc) (b := 1) rfl rfl) ?_
    refine q_putI hC hW kX5_15 6 (Lg6 cc ad (sJ S 1 mc x)) (Ls6_1 cc ad (sJ S 1 mc x) (nI (mc + 1))) (Nat.le_of_ble_eq_true rfl) dX5_add_29 (fun H locs hW => ?_)
    exact hend _ _ _ _ _ (by simp only [sX5_add_S, if_neg (Nat.not_le.mpr c_9)]) hW dX5_add_32
theorem q_X5_add (S : St) (x : Int64) (mc : Nat) : (sX5_add_S S x mc).1 0 13 = S.1 0 13 := by unfold sX5_add_S; split <;> rfl
def LX5_countBetween_6_5 (S : St) (x : Int64) (y : Int64) (mc : Nat) : Nat → Int32
  | 0 => 0
  | k + 1 => (if (S.2 1 k) ≤ x then (LX5_countBetween_6_5 S x y mc k) else (if y < (S.2 1 k) then (LX5_countBetween_6_5 S x y mc k) else ((LX5_countBetween_6_5 S x y mc k) + 1)))
def sX5_countBetween (S : St) (x : Int64) (y : Int64) (mc : Nat) : Int32 := (LX5_countBetween_6_5 S x y mc mc)
set_option maxHeartbeats 4000000 in
set_option maxRecDepth 100000 in
theorem c_X5_countBetween (l : Launch) (D : va_G) (cc : Nat → ClassId) (ad : Nat → Nat) (S : St) (x : Int64) (y : Int64) (mc : Nat) (hm : S.1 0 16 = nI mc) (hm5 : mc ≤ 512) : CtI l D cc yX5_countBetween cX5_countBetween 7 .int 0 [.ref (ad 6), .long x, .long y] (LW cc ad S) (sX5_countBetween S x y mc) (LW cc ad S) := by
  refine CtI.of (plainFor_of_name (by decide +kernel)) rfl (Nat.le_of_ble_eq_true rfl) ?_
  intro p e s m args below meth c A Q hC hW hend ls hl
  obtain ⟨⟨hx, hb, hml, hown, hts⟩, hNW⟩ := id hC
  have hl : lv_has ls 7 [(0, .ref (ad 6)), (1, .long x), (3, .long y)] := hl
  refine lv_iconst (v := 0) hx hb dX5_countBetween_0 (by decide) ?_
  refine lv_istore (lv' := [(5, .int 0), (0, .ref (ad 6)), (1, .long x), (3, .long y)]) hx hb dX5_countBetween_1 hl (by decide) rfl (fun ls hl => ?_)
  refine lv_iconst (v := 0) hx hb dX5_countBetween_3 (by decide) ?_
  refine lv_istore (lv' := [(6, .int 0), (5, .int 0), (0, .ref (ad 6)), (1, .long x), (3, .long y)]) hx hb dX5_countBetween_4 hl (by decide) rfl (fun ls hl => ?_)
  have loop1 : ∀ (rn k : Nat), k + rn = mc → ∀ (H : Heap) (locs : List Loc) (ls : Array Slot), Wd D cc (LW cc ad S) A s.heap H locs s → lv_has ls 7 [(0, .ref (ad 6)), (1, .long x), (3, .long y), (5, .int (LX5_countBetween_6_5 S x y mc k)), (6, .int (nI k))] → W p l e (rmD 0) s m args below meth c H locs 0 0 Q (F0 m 6 ls []) := by
    intro rn
    induction rn with
    | zero =>
      intro k hk H locs ls hW hl
      obtain rfl : mc = k := by omega
      refine lv_iload hx hb dX5_countBetween_6 (lv_at hl 4 rfl) ?_
      refine lv_aload_n hx hb dX5_countBetween_8 rfl (lv_at hl 0 rfl) ?_
      refine q_get hC hW kX5_15 6 (Lg6 cc ad S) (v := .int (nI mc)) (congrArg (fun z => some (Value.int z)) hm) dX5_countBetween_9 ?_
      refine q_icmp_ge_n (tgt := 48) hx hb (a := mc) (b := mc) rfl rfl (by omega) (by omega) dX5_countBetween_12 (by decide) (fun c_12 => ?_) (fun c_12 => by exfalso; omega)
      refine lv_iload hx hb dX5_countBetween_48 (lv_at hl 3 rfl) ?_
      exact hend _ _ _ _ _ _ (by unfold sX5_countBetween; rfl) rfl hW dX5_countBetween_50
    | succ rn ih =>
      intro k hk H locs ls hW hl
      have hkN : k < mc := by omega
      refine lv_iload hx hb dX5_countBetween_6 (lv_at hl 4 rfl) ?_
      refine lv_aload_n hx hb dX5_countBetween_8 rfl (lv_at hl 0 rfl) ?_
      refine q_get hC hW kX5_15 6 (Lg6 cc ad S) (v := .int (nI mc)) (congrArg (fun z => some (Value.int z)) hm) dX5_countBetween_9 ?_
      refine q_icmp_ge_n (tgt := 48) hx hb (a := k) (b := mc) rfl rfl (by omega) (by omega) dX5_countBetween_12 (by decide) (fun c_12 => by exfalso; omega) (fun c_12 => ?_)
      refine lv_aload_n hx hb dX5_countBetween_15 rfl (lv_at hl 0 rfl) ?_
      refine q_get hC hW kX5_9 6 (Lg6 cc ad S) (v := .ref (ad 7)) rfl dX5_countBetween_16 ?_
      refine lv_iload hx hb dX5_countBetween_19 (lv_at hl 4 rfl) ?_
      refine q_lald hC hW 7 (Lg7 cc ad S) (v := (S.2 1 k)) k rfl (by omega) (by decide) rfl dX5_countBetween_21 ?_
      refine lv_lload_n hx hb dX5_countBetween_22 rfl (lv_at hl 1 rfl) ?_
      refine q_jle (tgt := 42) hC dX5_countBetween_23 dX5_countBetween_24 (by decide) (fun c_23 => ?_) (fun c_23 => ?_)
      · skip
        refine lv_iinc (v := (nI (k + 1))) (lv' := [(6, .int (nI (k + 1))), (0, .ref (ad 6)), (1, .long x), (3, .long y), (5, .int (LX5_countBetween_6_5 S x y mc k))]) hx hb dX5_countBetween_42 hl (k := 4) rfl (nq_inc k 1) (by decide) rfl (fun ls hl => ?_)
        refine lv_goto (tgt := 6) hx hb dX5_countBetween_45 (by decide) ?_
        exact ih (k + 1) (by omega) _ _ _ hW (lv_sub hl [1, 2, 3, 4, 0] (by simp only [LX5_countBetween_6_5, if_pos c_23]; rfl))
      · skip
        refine lv_aload_n hx hb dX5_countBetween_27 rfl (lv_at hl 0 rfl) ?_
        refine q_get hC hW kX5_9 6 (Lg6 cc ad S) (v := .ref (ad 7)) rfl dX5_countBetween_28 ?_
        refine lv_iload hx hb dX5_countBetween_31 (lv_at hl 4 rfl) ?_
        refine q_lald hC hW 7 (Lg7 cc ad S) (v := (S.2 1 k)) k rfl (by omega) (by decide) rfl dX5_countBetween_33 ?_
        refine lv_lload_n hx hb dX5_countBetween_34 rfl (lv_at hl 2 rfl) ?_
        refine q_jgt (tgt := 42) hC dX5_countBetween_35 dX5_countBetween_36 (by decide) (fun c_35 => ?_) (fun c_35 => ?_)
        · skip
          refine lv_iinc (v := (nI (k + 1))) (lv' := [(6, .int (nI (k + 1))), (0, .ref (ad 6)), (1, .long x), (3, .long y), (5, .int (LX5_countBetween_6_5 S x y mc k))]) hx hb dX5_countBetween_42 hl (k := 4) rfl (nq_inc k 1) (by decide) rfl (fun ls hl => ?_)
          refine lv_goto (tgt := 6) hx hb dX5_countBetween_45 (by decide) ?_
          exact ih (k + 1) (by omega) _ _ _ hW (lv_sub hl [1, 2, 3, 4, 0] (by simp only [LX5_countBetween_6_5, if_neg c_23, if_pos c_35]; rfl))
        · skip
          refine lv_iinc (v := ((LX5_countBetween_6_5 S x y mc k) + 1)) (lv' := [(5, .int ((LX5_countBetween_6_5 S x y mc k) + 1)), (0, .ref (ad 6)), (1, .long x), (3, .long y), (6, .int (nI k))]) hx hb dX5_countBetween_39 hl (k := 3) rfl rfl (by decide) rfl (fun ls hl => ?_)
          refine lv_iinc (v := (nI (k + 1))) (lv' := [(6, .int (nI (k + 1))), (5, .int ((LX5_countBetween_6_5 S x y mc k) + 1)), (0, .ref (ad 6)), (1, .long x), (3, .long y)]) hx hb dX5_countBetween_42 hl (k := 4) rfl (nq_inc k 1) (by decide) rfl (fun ls hl => ?_)
          refine lv_goto (tgt := 6) hx hb dX5_countBetween_45 (by decide) ?_
          exact ih (k + 1) (by omega) _ _ _ hW (lv_sub hl [2, 3, 4, 1, 0] (by simp only [LX5_countBetween_6_5, if_neg c_23, if_neg c_35]; rfl))
  exact loop1 mc 0 (by omega) _ _ _ hW (lv_sub hl [2, 3, 4, 1, 0] rfl)
/-- how many at the head of a row are at most a bound -/
def xLead (f : Nat → Int64) (x : Int64) : Nat → Nat → Nat
  | 0, k => k
  | n + 1, k => if x < f k then k else xLead f x n (k + 1)
theorem xLead_le (f : Nat → Int64) (x : Int64) : ∀ n k : Nat, k ≤ xLead f x n k ∧ xLead f x n k ≤ k + n
  | 0, k => by simp [xLead]
  | n + 1, k => by
    unfold xLead
    split
    · omega
    · have := xLead_le f x n (k + 1)
      omega
def sX5_dropUpTo_S (S : St) (x : Int64) (mc : Nat) : St := sRJ (sI S 0 16 (nI (mc - xLead (S.2 1) x mc 0))) 1 (va_cpy (S.2 1) (S.2 1) (xLead (S.2 1) x mc 0) 0 (mc - xLead (S.2 1) x mc 0))
set_option maxHeartbeats 4000000 in
set_option maxRecDepth 100000 in
theorem c_X5_dropUpTo (l : Launch) (D : va_G) (cc : Nat → ClassId) (ad : Nat → Nat) (S : St) (x : Int64) (mc : Nat) (hm : S.1 0 16 = nI mc) (hm5 : mc ≤ 512) : CtV l D cc yX5_dropUpTo cX5_dropUpTo 4 1 [.ref (ad 6), .long x] (LW cc ad S) (LW cc ad (sX5_dropUpTo_S S x mc)) := by
  refine CtV.of (plainFor_of_name (by decide +kernel)) (Nat.le_of_ble_eq_true rfl) ?_
  intro p e s m args below meth c A Q hC hW hend ls hl
  obtain ⟨⟨hx, hb, hml, hown, hts⟩, hNW⟩ := id hC
  have hl : lv_has ls 4 [(0, .ref (ad 6)), (1, .long x)] := hl
  refine lv_iconst (v := 0) hx hb dX5_dropUpTo_0 (by decide) ?_
  refine lv_istore_n (lv' := [(3, .int 0), (0, .ref (ad 6)), (1, .long x)]) hx hb dX5_dropUpTo_1 rfl hl (by decide) rfl (fun ls hl => ?_)
  have loop1 : ∀ (rn k : Nat), k + rn = mc → xLead (S.2 1) x rn k = xLead (S.2 1) x mc 0 → ∀ (H : Heap) (locs : List Loc) (ls : Array Slot), Wd D cc (LW cc ad S) A s.heap H locs s → lv_has ls 4 [(0, .ref (ad 6)), (1, .long x), (3, .int (nI k))] → W p l e (rmD 1) s m args below meth c H locs 0 0 Q (F0 m 2 ls []) := by
    intro rn
    induction rn with
    | zero =>
      intro k hk hinv H locs ls hW hl
      obtain rfl : mc = k := by omega
      refine lv_iload_n hx hb dX5_dropUpTo_2 rfl (lv_at hl 2 rfl) ?_
      refine lv_aload_n hx hb dX5_dropUpTo_3 rfl (lv_at hl 0 rfl) ?_
      refine q_get hC hW kX5_15 6 (Lg6 cc ad S) (v := .int (nI mc)) (congrArg (fun z => some (Value.int z)) hm) dX5_dropUpTo_4 ?_
      refine q_icmp_ge_n (tgt := 27) hx hb (a := mc) (b := mc) rfl rfl (by omega) (by omega) dX5_dropUpTo_7 (by decide) (fun c_7 => ?_) (fun c_7 => by exfalso; omega)
      refine lv_aload_n hx hb dX5_dropUpTo_27 rfl (lv_at hl 0 rfl) ?_
      refine lv_dup hx hb dX5_dropUpTo_28 rfl ?_
      refine q_get hC hW kX5_15 6 (Lg6 cc ad S) (v := .int (nI mc)) (congrArg (fun z => some (Value.int z)) hm) dX5_dropUpTo_29 ?_
      refine lv_iload_n hx hb dX5_dropUpTo_32 rfl (lv_at hl 2 rfl) ?_
      refine lv_isub hx hb dX5_dropUpTo_33 ?_
      refine q_ri (v := nI (mc - mc)) (nq_sub (a := mc) (b := mc) rfl rfl (by omega)) ?_
      refine q_putI hC hW kX5_15 6 (Lg6 cc ad S) (Ls6_1 cc ad S (nI (mc - mc))) (Nat.le_of_ble_eq_true rfl) dX5_dropUpTo_34 (fun H locs hW => ?_)
      refine lv_aload_n hx hb dX5_dropUpTo_37 rfl (lv_at hl 0 rfl) ?_
      refine q_get hC hW kX5_9 6 (Lg6 cc ad (sI S 0 16 (nI (mc - mc)))) (v := .ref (ad 7)) rfl dX5_dropUpTo_38 ?_
      refine lv_iload_n hx hb dX5_dropUpTo_41 rfl (lv_at hl 2 rfl) ?_
      refine lv_aload_n hx hb dX5_dropUpTo_42 rfl (lv_at hl 0 rfl) ?_
      refine q_get hC hW kX5_9 6 (Lg6 cc ad (sI S 0 16 (nI (mc - mc)))) (v := .ref (ad 7)) rfl dX5_dropUpTo_43 ?_
      refine lv_iconst (v := 0) hx hb dX5_dropUpTo_46 (by decide) ?_
      refine lv_aload_n hx hb dX5_dropUpTo_47 rfl (lv_at hl 0 rfl) ?_
      refine q_get hC hW kX5_15 6 (Lg6 cc ad (sI S 0 16 (nI (mc - mc)))) (v := .int (nI (mc - mc))) rfl dX5_dropUpTo_48 ?_
      refine q_copyL hC hW yX5_acopy_19 7 7 (Lg7 cc ad (sI S 0 16 (nI (mc - mc)))) (Lg7 cc ad (sI S 0 16 (nI (mc - mc)))) (sp := mc) (dp := 0) (n := (mc - mc)) rfl rfl rfl (by omega) (by omega) (by omega) (by omega) (by omega) (Lr7 cc ad (sI S 0 16 (nI (mc - mc))) (va_cpy ((sI S 0 16 (nI (mc - mc))).2 1) ((sI S 0 16 (nI (mc - mc))).2 1) mc 0 (mc - mc))) hl.1 (by decide) (Nat.le_of_ble_eq_true rfl) dX5_dropUpTo_51 (fun H locs hW => ?_)
      exact hend _ _ _ _ _ (by have hE : xLead (S.2 1) x mc 0 = mc := hinv.symm.trans (by simp only [xLead]); unfold sX5_dropUpTo_S; rw [hE]; rfl) hW dX5_dropUpTo_54
    | succ rn ih =>
      intro k hk hinv H locs ls hW hl
      have hkN : k < mc := by omega
      refine lv_iload_n hx hb dX5_dropUpTo_2 rfl (lv_at hl 2 rfl) ?_
      refine lv_aload_n hx hb dX5_dropUpTo_3 rfl (lv_at hl 0 rfl) ?_
      refine q_get hC hW kX5_15 6 (Lg6 cc ad S) (v := .int (nI mc)) (congrArg (fun z => some (Value.int z)) hm) dX5_dropUpTo_4 ?_
      refine q_icmp_ge_n (tgt := 27) hx hb (a := k) (b := mc) rfl rfl (by omega) (by omega) dX5_dropUpTo_7 (by decide) (fun c_7 => by exfalso; omega) (fun c_7 => ?_)
      refine lv_aload_n hx hb dX5_dropUpTo_10 rfl (lv_at hl 0 rfl) ?_
      refine q_get hC hW kX5_9 6 (Lg6 cc ad S) (v := .ref (ad 7)) rfl dX5_dropUpTo_11 ?_
      refine lv_iload_n hx hb dX5_dropUpTo_14 rfl (lv_at hl 2 rfl) ?_
      refine q_lald hC hW 7 (Lg7 cc ad S) (v := (S.2 1 k)) k rfl (by omega) (by decide) rfl dX5_dropUpTo_15 ?_
      refine lv_lload_n hx hb dX5_dropUpTo_16 rfl (lv_at hl 1 rfl) ?_
      refine q_jgt (tgt := 27) hC dX5_dropUpTo_17 dX5_dropUpTo_18 (by decide) (fun c_17 => ?_) (fun c_17 => ?_)
      · skip
        refine lv_aload_n hx hb dX5_dropUpTo_27 rfl (lv_at hl 0 rfl) ?_
        refine lv_dup hx hb dX5_dropUpTo_28 rfl ?_
        refine q_get hC hW kX5_15 6 (Lg6 cc ad S) (v := .int (nI mc)) (congrArg (fun z => some (Value.int z)) hm) dX5_dropUpTo_29 ?_
        refine lv_iload_n hx hb dX5_dropUpTo_32 rfl (lv_at hl 2 rfl) ?_
        refine lv_isub hx hb dX5_dropUpTo_33 ?_
        refine q_ri (v := nI (mc - k)) (nq_sub (a := mc) (b := k) rfl rfl (by omega)) ?_
        refine q_putI hC hW kX5_15 6 (Lg6 cc ad S) (Ls6_1 cc ad S (nI (mc - k))) (Nat.le_of_ble_eq_true rfl) dX5_dropUpTo_34 (fun H locs hW => ?_)
        refine lv_aload_n hx hb dX5_dropUpTo_37 rfl (lv_at hl 0 rfl) ?_
        refine q_get hC hW kX5_9 6 (Lg6 cc ad (sI S 0 16 (nI (mc - k)))) (v := .ref (ad 7)) rfl dX5_dropUpTo_38 ?_
        refine lv_iload_n hx hb dX5_dropUpTo_41 rfl (lv_at hl 2 rfl) ?_
        refine lv_aload_n hx hb dX5_dropUpTo_42 rfl (lv_at hl 0 rfl) ?_
        refine q_get hC hW kX5_9 6 (Lg6 cc ad (sI S 0 16 (nI (mc - k)))) (v := .ref (ad 7)) rfl dX5_dropUpTo_43 ?_
        refine lv_iconst (v := 0) hx hb dX5_dropUpTo_46 (by decide) ?_
        refine lv_aload_n hx hb dX5_dropUpTo_47 rfl (lv_at hl 0 rfl) ?_
        refine q_get hC hW kX5_15 6 (Lg6 cc ad (sI S 0 16 (nI (mc - k)))) (v := .int (nI (mc - k))) rfl dX5_dropUpTo_48 ?_
        refine q_copyL hC hW yX5_acopy_19 7 7 (Lg7 cc ad (sI S 0 16 (nI (mc - k)))) (Lg7 cc ad (sI S 0 16 (nI (mc - k)))) (sp := k) (dp := 0) (n := (mc - k)) rfl rfl rfl (by omega) (by omega) (by omega) (by omega) (by omega) (Lr7 cc ad (sI S 0 16 (nI (mc - k))) (va_cpy ((sI S 0 16 (nI (mc - k))).2 1) ((sI S 0 16 (nI (mc - k))).2 1) k 0 (mc - k))) hl.1 (by decide) (Nat.le_of_ble_eq_true rfl) dX5_dropUpTo_51 (fun H locs hW => ?_)
        exact hend _ _ _ _ _ (by have hE : xLead (S.2 1) x mc 0 = k := hinv.symm.trans (by simp only [xLead, if_pos c_17]); unfold sX5_dropUpTo_S; rw [hE]; rfl) hW dX5_dropUpTo_54
      · skip
        refine lv_iinc (v := (nI (k + 1))) (lv' := [(3, .int (nI (k + 1))), (0, .ref (ad 6)), (1, .long x)]) hx hb dX5_dropUpTo_21 hl (k := 2) rfl (nq_inc k 1) (by decide) rfl (fun ls hl => ?_)
        refine lv_goto (tgt := 2) hx hb dX5_dropUpTo_24 (by decide) ?_
        exact ih (k + 1) (by omega) (by rw [← hinv]; simp only [xLead, if_neg c_17]) _ _ _ hW (lv_sub hl [1, 2, 0] rfl)
  exact loop1 mc 0 (by omega) rfl _ _ _ hW (lv_sub hl [1, 2, 0] rfl)
theorem n_X5_dropUpTo (S : St) (x : Int64) (mc : Nat) : (sX5_dropUpTo_S S x mc).1 0 0 = S.1 0 0 := rfl
def sX2_begin_S (S : St)  : St := (sI (sI S 0 17 0) 0 18 0)
set_option maxHeartbeats 4000000 in
set_option maxRecDepth 100000 in
theorem c_X2_begin (l : Launch) (D : va_G) (cc : Nat → ClassId) (ad : Nat → Nat) (S : St) : CtV l D cc yX2_begin cX2_begin 1 0 [.ref (ad 8)] (LW cc ad S) (LW cc ad (sX2_begin_S S )) := by
  refine CtV.of (plainFor_of_name (by decide +kernel)) (Nat.le_of_ble_eq_true rfl) ?_
  intro p e s m args below meth c A Q hC hW hend ls hl
  obtain ⟨⟨hx, hb, hml, hown, hts⟩, hNW⟩ := id hC
  have hl : lv_has ls 1 [(0, .ref (ad 8))] := hl
  refine lv_aload_n hx hb dX2_begin_0 rfl (lv_at hl 0 rfl) ?_
  refine lv_iconst (v := 0) hx hb dX2_begin_1 (by decide) ?_
  refine q_putI hC hW kX2_21 8 (Lg8 cc ad S) (Ls8_3 cc ad S 0) (Nat.le_of_ble_eq_true rfl) dX2_begin_2 (fun H locs hW => ?_)
  refine lv_aload_n hx hb dX2_begin_5 rfl (lv_at hl 0 rfl) ?_
  refine lv_iconst (v := 0) hx hb dX2_begin_6 (by decide) ?_
  refine q_putI hC hW kX2_25 8 (Lg8 cc ad (sI S 0 17 0)) (Ls8_4 cc ad (sI S 0 17 0) 0) (Nat.le_of_ble_eq_true rfl) dX2_begin_7 (fun H locs hW => ?_)
  exact hend _ _ _ _ _ (by unfold sX2_begin_S; rfl) hW dX2_begin_10
def sX2_slotOf (S : St) (x : Int32) : Int32 := (sJ9_floorMod_7cf53 ((S.1 0 17) + x) 30)
set_option maxHeartbeats 4000000 in
set_option maxRecDepth 100000 in
theorem c_X2_slotOf (l : Launch) (D : va_G) (cc : Nat → ClassId) (ad : Nat → Nat) (S : St) (x : Int32) : CtI l D cc yX2_slotOf cX2_slotOf 2 .int 1 [.ref (ad 8), .int x] (LW cc ad S) (sX2_slotOf S x) (LW cc ad S) := by
  refine CtI.of (plainFor_of_name (by decide +kernel)) rfl (Nat.le_of_ble_eq_true rfl) ?_
  intro p e s m args below meth c A Q hC hW hend ls hl
  obtain ⟨⟨hx, hb, hml, hown, hts⟩, hNW⟩ := id hC
  have hl : lv_has ls 2 [(0, .ref (ad 8)), (1, .int x)] := hl
  refine lv_aload_n hx hb dX2_slotOf_0 rfl (lv_at hl 0 rfl) ?_
  refine q_get hC hW kX2_21 8 (Lg8 cc ad S) (v := .int (S.1 0 17)) rfl dX2_slotOf_1 ?_
  refine lv_iload_n hx hb dX2_slotOf_4 rfl (lv_at hl 1 rfl) ?_
  refine lv_iadd hx hb dX2_slotOf_5 ?_
  refine lv_bipush (v := 30) hx hb dX2_slotOf_6 (by decide) ?_
  refine q_SI hC hW (c_J9_floorMod_7cf53 l D cc _ ((S.1 0 17) + x) 30 (by decide)) mX2_28 (by decide) rfl hl.1 rfl (Nat.le_of_ble_eq_true rfl) (by decide) dX2_slotOf_8 (fun H locs hW => ?_)
  exact hend _ _ _ _ _ _ (by unfold sX2_slotOf; rfl) rfl hW dX2_slotOf_11
theorem slot_nat (S : St) (o k : Nat) (h : S.1 0 17 = nI o) (ho : o < 30) (hk : k ≤ 30) : sX2_slotOf S (nI k) = nI ((o + k) % 30) := by
  unfold sX2_slotOf sJ9_floorMod_7cf53
  rw [h, nI_add]
  have h30 : (30 : Int32) = nI 30 := rfl
  rw [h30, pk_rem (by omega) (by decide) (by decide), nx_xor2]
  have h1 : (0 : Int32) ≤ nI ((o + k) ^^^ 30) := nI_pos' (Nat.xor_lt_two_pow (n := 31) (by omega) (by decide))
  rw [if_pos h1]
