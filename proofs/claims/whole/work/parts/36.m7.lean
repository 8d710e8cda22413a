def sX12_steady (S : St) (i : Nat) : Int64 := (if 0 ≤ (sX12_down ((((S.2 0 0) + (S.2 0 1)) * (sX12_nominalSpeed S (i + 1) (S.2 0 4))) - ((S.2 0 0) * (S.2 0 4))) (S.2 0 4)) then (sX12_down ((((S.2 0 0) + (S.2 0 1)) * (sX12_nominalSpeed S (i + 1) (S.2 0 4))) - ((S.2 0 0) * (S.2 0 4))) (S.2 0 4)) else 0)
set_option maxHeartbeats 4000000 in
set_option maxRecDepth 100000 in
theorem c_X12_steady (l : Launch) (D : va_G) (cc : Nat → ClassId) (ad : Nat → Nat) (S : St) (i : Nat) (hi : i < 6) (ht : ¬ S.2 0 4 = 0) : CtL l D cc yX12_steady cX12_steady 6 2 [.ref (ad 0), .int (nI i)] (MW cc ad S) (sX12_steady S i) (MW cc ad S) := by
  refine CtL.of (plainFor_of_name (by decide +kernel)) (Nat.le_of_ble_eq_true rfl) ?_
  intro p e s m args below meth c A Q hC hW hend ls hl
  obtain ⟨⟨hx, hb, hml, hown, hts⟩, hNW⟩ := id hC
  have hl : lv_has ls 6 [(0, .ref (ad 0)), (1, .int (nI i))] := hl
  refine lv_aload_n hx hb dX12_steady_0 rfl (lv_at hl 0 rfl) ?_
  refine lv_iload_n hx hb dX12_steady_1 rfl (lv_at hl 1 rfl) ?_
  refine lv_iconst (v := 1) hx hb dX12_steady_2 (by decide) ?_
  refine lv_iadd hx hb dX12_steady_3 ?_
  refine q_ri (v := nI (i + 1)) (nq_add (a := i) (b := 1) rfl rfl) ?_
  refine lv_aload_n hx hb dX12_steady_4 rfl (lv_at hl 0 rfl) ?_
  refine q_get hC hW kX12_90 0 (Mg0 cc ad S) (v := .long (S.2 0 4)) rfl dX12_steady_5 ?_
  refine q_VL hC hW (c_X12_nominalSpeed l D cc ad S (i + 1) (S.2 0 4) (by omega)) mX12_161 0 (Mg0 cc ad S) rfl (by decide) rfl hl.1 rfl (Nat.le_of_ble_eq_true rfl) (by decide) dX12_steady_8 (fun H locs hW => ?_)
  refine lv_lstore_n (lv' := [(2, .long (sX12_nominalSpeed S (i + 1) (S.2 0 4))), (0, .ref (ad 0)), (1, .int (nI i))]) hx hb dX12_steady_11 rfl hl (by decide) rfl (fun ls hl => ?_)
  refine lv_aload_n hx hb dX12_steady_12 rfl (lv_at hl 1 rfl) ?_
  refine q_get hC hW kX12_75 0 (Mg0 cc ad S) (v := .long (S.2 0 0)) rfl dX12_steady_13 ?_
  refine lv_aload_n hx hb dX12_steady_16 rfl (lv_at hl 1 rfl) ?_
  refine q_get hC hW kX12_79 0 (Mg0 cc ad S) (v := .long (S.2 0 1)) rfl dX12_steady_17 ?_
  refine lv_ladd hx hb dX12_steady_20 ?_
  refine lv_lload_n hx hb dX12_steady_21 rfl (lv_at hl 0 rfl) ?_
  refine lv_lmul hx hb dX12_steady_22 ?_
  refine lv_aload_n hx hb dX12_steady_23 rfl (lv_at hl 1 rfl) ?_
  refine q_get hC hW kX12_75 0 (Mg0 cc ad S) (v := .long (S.2 0 0)) rfl dX12_steady_24 ?_
  refine lv_aload_n hx hb dX12_steady_27 rfl (lv_at hl 1 rfl) ?_
  refine q_get hC hW kX12_90 0 (Mg0 cc ad S) (v := .long (S.2 0 4)) rfl dX12_steady_28 ?_
  refine lv_lmul hx hb dX12_steady_31 ?_
  refine lv_lsub hx hb dX12_steady_32 ?_
  refine lv_aload_n hx hb dX12_steady_33 rfl (lv_at hl 1 rfl) ?_
  refine q_get hC hW kX12_90 0 (Mg0 cc ad S) (v := .long (S.2 0 4)) rfl dX12_steady_34 ?_
  refine q_SL hC hW (c_X12_down l D cc _ ((((S.2 0 0) + (S.2 0 1)) * (sX12_nominalSpeed S (i + 1) (S.2 0 4))) - ((S.2 0 0) * (S.2 0 4))) (S.2 0 4) ht) mX12_157 (by decide) rfl hl.1 rfl (Nat.le_of_ble_eq_true rfl) (by decide) dX12_steady_37 (fun H locs hW => ?_)
  refine lv_lstore (lv' := [(4, .long (sX12_down ((((S.2 0 0) + (S.2 0 1)) * (sX12_nominalSpeed S (i + 1) (S.2 0 4))) - ((S.2 0 0) * (S.2 0 4))) (S.2 0 4))), (2, .long (sX12_nominalSpeed S (i + 1) (S.2 0 4))), (0, .ref (ad 0)), (1, .int (nI i))]) hx hb dX12_steady_40 hl (by decide) rfl (fun ls hl => ?_)
  refine lv_lload hx hb dX12_steady_42 (lv_at hl 0 rfl) ?_
  refine lv_lconst (v := 0) hx hb dX12_steady_44 rfl ?_
  refine q_jge (tgt := 53) hC dX12_steady_45 dX12_steady_46 (by decide) (fun c_45 => ?_) (fun c_45 => ?_)
  · skip
    refine lv_lload hx hb dX12_steady_53 (lv_at hl 0 rfl) ?_
    exact hend _ _ _ _ _ _ (by simp only [sX12_steady, if_pos c_45]) rfl hW dX12_steady_55
  · skip
    refine lv_lconst (v := 0) hx hb dX12_steady_49 rfl ?_
    refine lv_goto (tgt := 55) hx hb dX12_steady_50 (by decide) ?_
    exact hend _ _ _ _ _ _ (by simp only [sX12_steady, if_neg c_45]) rfl hW dX12_steady_55
def sX12_steadyTension (S : St) (j : Nat) : Int32 := (if (S.2 0 4) = 0 then (-1000005) else ((sX12_steady S j).toInt32))
set_option maxHeartbeats 4000000 in
set_option maxRecDepth 100000 in
theorem c_X12_steadyTension (l : Launch) (D : va_G) (cc : Nat → ClassId) (ad : Nat → Nat) (S : St) (j : Nat) (hI : InvM S) (hj : j < cN S) : CtI l D cc yX12_steadyTension cX12_steadyTension 2 .int 3 [.ref (ad 0), .int (nI j)] (MW cc ad S) (sX12_steadyTension S j) (MW cc ad S) := by
  refine CtI.of (plainFor_of_name (by decide +kernel)) rfl (Nat.le_of_ble_eq_true rfl) ?_
  intro p e s m args below meth c A Q hC hW hend ls hl
  obtain ⟨⟨hx, hb, hml, hown, hts⟩, hNW⟩ := id hC
  have hl : lv_has ls 2 [(0, .ref (ad 0)), (1, .int (nI j))] := hl
  obtain ⟨⟨-, hn1_hI, hn2_hI⟩, ⟨-, hq_hI⟩, -, ⟨-, hh_hI⟩, hs_hI⟩ := id hI
  refine lv_aload_n hx hb dX12_steadyTension_0 rfl (lv_at hl 0 rfl) ?_
  refine lv_iload_n hx hb dX12_steadyTension_1 rfl (lv_at hl 1 rfl) ?_
  refine q_VI hC hW (c_X12_noSpan l D cc ad S (nI j)) mX12_135 0 (Mg0 cc ad S) rfl (by decide) rfl hl.1 rfl (Nat.le_of_ble_eq_true rfl) (by decide) dX12_steadyTension_2 (fun H locs hW => ?_)
  refine q_ri (v := nI 0) (noSpan_0 S j hI hj) ?_
  refine q_if_eq_n (tgt := 11) hx hb (a := 0) rfl (by omega) dX12_steadyTension_5 (by decide) (fun c_5 => ?_) (fun c_5 => by exfalso; omega)
  refine lv_aload_n hx hb dX12_steadyTension_11 rfl (lv_at hl 0 rfl) ?_
  refine q_get hC hW kX12_90 0 (Mg0 cc ad S) (v := .long (S.2 0 4)) rfl dX12_steadyTension_12 ?_
  refine lv_lconst (v := 0) hx hb dX12_steadyTension_15 rfl ?_
  refine q_jne (tgt := 25) hC dX12_steadyTension_16 dX12_steadyTension_17 (by decide) (fun c_16 => ?_) (fun c_16 => ?_)
  · skip
    refine lv_aload_n hx hb dX12_steadyTension_25 rfl (lv_at hl 0 rfl) ?_
    refine lv_iload_n hx hb dX12_steadyTension_26 rfl (lv_at hl 1 rfl) ?_
    refine q_VL hC hW (c_X12_steady l D cc ad S j (by omega) ht) mX12_238 0 (Mg0 cc ad S) rfl (by decide) rfl hl.1 rfl (Nat.le_of_ble_eq_true rfl) (by decide) dX12_steadyTension_27 (fun H locs hW => ?_)
    refine lv_l2i hx hb dX12_steadyTension_30 rfl ?_
    exact hend _ _ _ _ _ _ (by simp only [sX12_steadyTension, if_neg c_16]) rfl hW dX12_steadyTension_31
  · skip
    refine q_ldc hC nX12_229 dX12_steadyTension_20 ?_
    refine lv_goto (tgt := 31) hx hb dX12_steadyTension_22 (by decide) ?_
    exact hend _ _ _ _ _ _ (by simp only [sX12_steadyTension, if_pos c_16]) rfl hW dX12_steadyTension_31
def sX12_steadyTension_no (S : St) (x : Int32) : Int32 := (-1000001)
set_option maxHeartbeats 4000000 in
set_option maxRecDepth 100000 in
theorem c_X12_steadyTension_no (l : Launch) (D : va_G) (cc : Nat → ClassId) (ad : Nat → Nat) (S : St) (x : Int32) (hno : sX12_noSpan S x = 1) : CtI l D cc yX12_steadyTension cX12_steadyTension 2 .int 3 [.ref (ad 0), .int x] (MW cc ad S) (sX12_steadyTension_no S x) (MW cc ad S) := by
  refine CtI.of (plainFor_of_name (by decide +kernel)) rfl (Nat.le_of_ble_eq_true rfl) ?_
  intro p e s m args below meth c A Q hC hW hend ls hl
  obtain ⟨⟨hx, hb, hml, hown, hts⟩, hNW⟩ := id hC
  have hl : lv_has ls 2 [(0, .ref (ad 0)), (1, .int x)] := hl
  refine lv_aload_n hx hb dX12_steadyTension_0 rfl (lv_at hl 0 rfl) ?_
  refine lv_iload_n hx hb dX12_steadyTension_1 rfl (lv_at hl 1 rfl) ?_
  refine q_VI hC hW (c_X12_noSpan l D cc ad S x) mX12_135 0 (Mg0 cc ad S) rfl (by decide) rfl hl.1 rfl (Nat.le_of_ble_eq_true rfl) (by decide) dX12_steadyTension_2 (fun H locs hW => ?_)
  refine q_ri (v := nI 1) hno ?_
  refine q_if_eq_n (tgt := 11) hx hb (a := 1) rfl (by omega) dX12_steadyTension_5 (by decide) (fun c_5 => by exfalso; omega) (fun c_5 => ?_)
  refine q_ldc hC nX12_138 dX12_steadyTension_8 ?_
  exact hend _ _ _ _ _ _ (by unfold sX12_steadyTension_no; rfl) rfl hW dX12_steadyTension_10
