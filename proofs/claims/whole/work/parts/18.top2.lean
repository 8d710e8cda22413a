theorem inv_X3_tick (S : St) (hI : Inv S) : Inv (sX3_tick_S S) := by
  unfold sX3_tick_S
  have h1 := inv_X3_wind _ (inv_X3_unwind _ (inv_X3_passWeb _ (inv_X1_approachWanted (sI S 0 1 (S.1 0 1 + 1)) (sX9_isSplicePending (sI S 0 1 (S.1 0 1 + 1)) (S.1 0 12)) hI)))
  split
  · split
    · exact inv_X3_inspect _ h1
    · exact inv_X3_inspect _ (inv_X3_control _ h1)
  · exact hI
def xDr (k : Nat) : Int32 := Int32.ofInt (50 * (k : Int) - 20000)
theorem xDr_toInt (k : Nat) (h : k ≤ 801) : (xDr k).toInt = 50 * (k : Int) - 20000 := by
  unfold xDr
  rw [Int32.toInt_ofInt]
  have hz : Int32.size = 4294967296 := rfl
  rw [hz]
  apply Int.bmod_eq_of_le <;> omega
theorem xDr_s (k : Nat) : xDr k + 50 = xDr (k + 1) := by
  unfold xDr
  rw [show (50 : Int32) = Int32.ofInt 50 from rfl, ← Int32.ofInt_add]
  congr 1
  omega
theorem xDr_in (k : Nat) (h : k < 801) : ¬ (20000 : Int32) < xDr k := by
  rw [Int32.lt_iff_toInt_lt, xDr_toInt k (by omega)]
  show ¬ (20000 : Int) < _
  omega
theorem xDr_out : (20000 : Int32) < xDr 801 := by
  rw [Int32.lt_iff_toInt_lt, xDr_toInt 801 (by omega)]
  show (20000 : Int) < _
  omega
def LX11_run_16_S (S S2 : St) (t : Nat) : Nat → St
  | 0 => S
  | k + 1 => (sX3_tick_S (LX11_run_16_S S S2 t k))
theorem invL_run (S S2 : St) (t k : Nat) (hI : Inv S) : Inv (LX11_run_16_S S S2 t k) := by
  induction k with
  | zero => exact hI
  | succ k ih => exact inv_X3_tick _ ih
def sX11_run (S S2 : St) (t : Nat) : Int32 := ((LX11_run_16_S S S2 t t).1 0 2)
def sX11_run_S (S S2 : St) (t : Nat) : St := (LX11_run_16_S S S2 t t)
set_option maxHeartbeats 4000000 in
set_option maxRecDepth 100000 in
theorem c_X11_run (l : Launch) (D : va_G) (cc : Nat → ClassId) (h : Nat) (ad a2 : Nat → Nat) (S S2 : St) (t : Nat) (hI : Inv S) (ht : t ≤ 300) (hw1 : sX11_isWithin (nI t) 1 300 = 1) : CtI l D cc yX11_run cX11_run 3 .int 6 [.ref h, .int (nI t)] (CW cc h ad a2 S S2) (sX11_run S S2 t) (CW cc h ad a2 (sX11_run_S S S2 t) S2) := by
  refine CtI.of (plainFor_of_name (by decide +kernel)) rfl (Nat.le_of_ble_eq_true rfl) ?_
  intro p e s m args below meth c A Q hC hW hend ls hl
  obtain ⟨⟨hx, hb, hml, hown, hts⟩, hNW⟩ := id hC
  unfold CW at hW hend
  have hl : lv_has ls 3 [(0, .ref h), (1, .int (nI t))] := hl
  obtain ⟨⟨-, hb1_hI, hb2_hI⟩, ⟨-, hq_hI⟩, ⟨-, hm_hI⟩, ⟨-, ho_hI⟩, ⟨-, hc_hI⟩⟩ := id hI
  refine lv_iload_n hx hb dX11_run_0 rfl (lv_at hl 1 rfl) ?_
  refine lv_iconst (v := 1) hx hb dX11_run_1 (by decide) ?_
  refine lv_sipush (v := 300) hx hb dX11_run_2 (by decide) ?_
  refine q_SI hC hW (c_X11_isWithin l D cc _ (nI t) 1 300) mX11_23 (by decide) rfl hl.1 rfl (Nat.le_of_ble_eq_true rfl) (by decide) dX11_run_5 (fun H locs hW => ?_)
  refine q_ri (v := nI 1) hw1 ?_
  refine q_if_ne_n (tgt := 14) hx hb (a := 1) rfl (by omega) dX11_run_8 (by decide) (fun c_8 => ?_) (fun c_8 => by exfalso; omega)
  refine lv_iconst (v := 0) hx hb dX11_run_14 (by decide) ?_
  refine lv_istore_n (lv' := [(2, .int 0), (0, .ref h), (1, .int (nI t))]) hx hb dX11_run_15 rfl hl (by decide) rfl (fun ls hl => ?_)
  have loop1 : ∀ (rn k : Nat), k + rn = t → ∀ (H : Heap) (locs : List Loc) (ls : Array Slot), Wd D cc ([(h, .inr (11, [.ref (ad 0), .ref (a2 0)]))] ++ LW cc ad (LX11_run_16_S S S2 t k) ++ LW cc a2 S2) A s.heap H locs s → lv_has ls 3 [(0, .ref h), (1, .int (nI t)), (2, .int (nI k))] → W p l e (rmD 6) s m args below meth c H locs 0 0 Q (F0 m 16 ls []) := by
    intro rn
    induction rn with
    | zero =>
      intro k hk H locs ls hW hl
      obtain rfl : t = k := by omega
      refine lv_iload_n hx hb dX11_run_16 rfl (lv_at hl 2 rfl) ?_
      refine lv_iload_n hx hb dX11_run_17 rfl (lv_at hl 1 rfl) ?_
      refine q_icmp_ge_n (tgt := 34) hx hb (a := t) (b := t) rfl rfl (by omega) (by omega) dX11_run_18 (by decide) (fun c_18 => ?_) (fun c_18 => by exfalso; omega)
      refine lv_aload_n hx hb dX11_run_34 rfl (lv_at hl 0 rfl) ?_
      refine q_get hC hW kX11_12 0 (ap_g1 (ap_g1 rfl)) (v := .ref (ad 0)) rfl dX11_run_35 ?_
      refine q_get hC hW kX11_134 (1 + 0) (ap_g1 (ap_g2 rfl (Lg0 cc ad (LX11_run_16_S S S2 t t)))) (v := .int ((LX11_run_16_S S S2 t t).1 0 2)) rfl dX11_run_38 ?_
      exact hend _ _ _ _ _ _ (by unfold sX11_run; rfl) (by unfold sX11_run_S; rfl) hW dX11_run_41
    | succ rn ih =>
      intro k hk H locs ls hW hl
      have hkN : k < t := by omega
      have hI_1 : Inv (LX11_run_16_S S S2 t k) := invL_run S S2 t k hI
      obtain ⟨⟨-, -, -⟩, ⟨-, hq_hI_1⟩, ⟨-, hm_hI_1⟩, ⟨-, ho_hI_1⟩, ⟨-, hc_hI_1⟩⟩ := id hI_1
      refine lv_iload_n hx hb dX11_run_16 rfl (lv_at hl 2 rfl) ?_
      refine lv_iload_n hx hb dX11_run_17 rfl (lv_at hl 1 rfl) ?_
      refine q_icmp_ge_n (tgt := 34) hx hb (a := k) (b := t) rfl rfl (by omega) (by omega) dX11_run_18 (by decide) (fun c_18 => by exfalso; omega) (fun c_18 => ?_)
      refine lv_aload_n hx hb dX11_run_21 rfl (lv_at hl 0 rfl) ?_
      refine q_get hC hW kX11_12 0 (ap_g1 (ap_g1 rfl)) (v := .ref (ad 0)) rfl dX11_run_22 ?_
      refine q_VV hC hW (CtV.lift (c_X3_tick l D cc ad (LX11_run_16_S S S2 t k) hI_1) ([(h, .inr (11, [.ref (ad 0), .ref (a2 0)]))]) (LW cc a2 S2) rfl rfl) mX11_131 (1 + 0) (ap_g1 (ap_g2 rfl (Lg0 cc ad (LX11_run_16_S S S2 t k)))) rfl (by decide) rfl hl.1 rfl (Nat.le_of_ble_eq_true rfl) (by decide) dX11_run_25 (fun H locs hW => ?_)
      have hI_2 : Inv (sX3_tick_S (LX11_run_16_S S S2 t k)) := inv_X3_tick (LX11_run_16_S S S2 t k) hI_1
      obtain ⟨⟨-, -, -⟩, ⟨-, hq_hI_2⟩, ⟨-, hm_hI_2⟩, ⟨-, ho_hI_2⟩, ⟨-, hc_hI_2⟩⟩ := id hI_2
      refine lv_iinc (v := (nI (k + 1))) (lv' := [(2, .int (nI (k + 1))), (0, .ref h), (1, .int (nI t))]) hx hb dX11_run_28 hl (k := 2) rfl (nq_inc k 1) (by decide) rfl (fun ls hl => ?_)
      refine lv_goto (tgt := 16) hx hb dX11_run_31 (by decide) ?_
      exact ih (k + 1) (by omega) _ _ _ (by simp only [LX11_run_16_S]; exact hW) (lv_sub hl [1, 2, 0] rfl)
  exact loop1 t 0 (by omega) _ _ _ hW (lv_sub hl [1, 2, 0] rfl)
def sX11_run_no (S S2 : St) (x : Int32) : Int32 := (-1000002)
set_option maxHeartbeats 4000000 in
set_option maxRecDepth 100000 in
theorem c_X11_run_no (l : Launch) (D : va_G) (cc : Nat → ClassId) (h : Nat) (ad a2 : Nat → Nat) (S S2 : St) (x : Int32) (hno : sX11_isWithin x 1 300 = 0) : CtI l D cc yX11_run cX11_run 3 .int 6 [.ref h, .int x] (CW cc h ad a2 S S2) (sX11_run_no S S2 x) (CW cc h ad a2 S S2) := by
  refine CtI.of (plainFor_of_name (by decide +kernel)) rfl (Nat.le_of_ble_eq_true rfl) ?_
  intro p e s m args below meth c A Q hC hW hend ls hl
  obtain ⟨⟨hx, hb, hml, hown, hts⟩, hNW⟩ := id hC
  unfold CW at hW hend
  have hl : lv_has ls 3 [(0, .ref h), (1, .int x)] := hl
  refine lv_iload_n hx hb dX11_run_0 rfl (lv_at hl 1 rfl) ?_
  refine lv_iconst (v := 1) hx hb dX11_run_1 (by decide) ?_
  refine lv_sipush (v := 300) hx hb dX11_run_2 (by decide) ?_
  refine q_SI hC hW (c_X11_isWithin l D cc _ x 1 300) mX11_23 (by decide) rfl hl.1 rfl (Nat.le_of_ble_eq_true rfl) (by decide) dX11_run_5 (fun H locs hW => ?_)
  refine q_ri (v := nI 0) hno ?_
  refine q_if_ne_n (tgt := 14) hx hb (a := 0) rfl (by omega) dX11_run_8 (by decide) (fun c_8 => by exfalso; omega) (fun c_8 => ?_)
  refine q_ldc hC nX11_27 dX11_run_11 ?_
  exact hend _ _ _ _ _ _ (by unfold sX11_run_no; rfl) rfl hW dX11_run_13
def sX11_measure (S S2 : St) (j : Nat) (y : Int32) : Int64 := (if y = 0 then (sX8_tensionAt S j (S.1 0 4)) else (if y = 1 then (S.2 3 j) else (if y = 2 then (sX8_length S j) else (if y = 3 then (S.2 4 j) else (if y = 4 then ((S.1 7 j).toInt64) else (if y = 5 then ((sX3_marksIn S j (cN S) (cM S)).toInt64) else (if y = 6 then (if (S.1 6 j) = 1 then ((S.1 13 j).toInt64) else (-9223372036854775808)) else (if y = 7 then (if (S.1 6 j) = 1 then ((S.1 14 j).toInt64) else (-9223372036854775808)) else (-9223372036854775808)))))))))
set_option maxHeartbeats 4000000 in
set_option maxRecDepth 100000 in
theorem c_X11_measure (l : Launch) (D : va_G) (cc : Nat → ClassId) (h : Nat) (ad a2 : Nat → Nat) (S S2 : St) (j : Nat) (y : Int32) (hI : Inv S) (hj : j < cN S) : CtL l D cc yX11_measure cX11_measure 4 3 [.ref h, .int (nI j), .int y] (CW cc h ad a2 S S2) (sX11_measure S S2 j y) (CW cc h ad a2 S S2) := by
  refine CtL.of (plainFor_of_name (by decide +kernel)) (Nat.le_of_ble_eq_true rfl) ?_
  intro p e s m args below meth c A Q hC hW hend ls hl
  obtain ⟨⟨hx, hb, hml, hown, hts⟩, hNW⟩ := id hC
  unfold CW at hW hend
  have hl : lv_has ls 4 [(0, .ref h), (1, .int (nI j)), (2, .int y)] := hl
  obtain ⟨⟨-, hb1_hI, hb2_hI⟩, ⟨-, hq_hI⟩, ⟨-, hm_hI⟩, ⟨-, ho_hI⟩, ⟨-, hc_hI⟩⟩ := id hI
  refine lv_aload_n hx hb dX11_measure_0 rfl (lv_at hl 0 rfl) ?_
  refine q_get hC hW kX11_12 0 (ap_g1 (ap_g1 rfl)) (v := .ref (ad 0)) rfl dX11_measure_1 ?_
  refine lv_iload_n hx hb dX11_measure_4 rfl (lv_at hl 1 rfl) ?_
  refine q_VI hC hW (CtI.lift (c_X3_hasSpan l D cc ad S (nI j)) ([(h, .inr (11, [.ref (ad 0), .ref (a2 0)]))]) (LW cc a2 S2) rfl rfl) mX11_41 (1 + 0) (ap_g1 (ap_g2 rfl (Lg0 cc ad S))) rfl (by decide) rfl hl.1 rfl (Nat.le_of_ble_eq_true rfl) (by decide) dX11_measure_5 (fun H locs hW => ?_)
  refine q_ri (v := nI 1) (hasSpan_1 S j hI hj) ?_
  refine q_if_ne_n (tgt := 15) hx hb (a := 1) rfl (by omega) dX11_measure_8 (by decide) (fun c_8 => ?_) (fun c_8 => by exfalso; omega)
  refine lv_aload_n hx hb dX11_measure_15 rfl (lv_at hl 0 rfl) ?_
  refine q_get hC hW kX11_12 0 (ap_g1 (ap_g1 rfl)) (v := .ref (ad 0)) rfl dX11_measure_16 ?_
  refine q_get hC hW kX11_47 (1 + 0) (ap_g1 (ap_g2 rfl (Lg0 cc ad S))) (v := .ref (ad 12)) rfl dX11_measure_19 ?_
  refine lv_iload_n hx hb dX11_measure_22 rfl (lv_at hl 1 rfl) ?_
  refine q_aald hC hW (1 + 12) 3 (ap_g1 (ap_g2 rfl (Lg12 cc ad S))) rfl (v := ad (j + 15)) j rfl (by omega) (by decide) rfl dX11_measure_23 ?_
  refine lv_astore_n (lv' := [(3, .ref (ad (j + 15))), (0, .ref h), (1, .int (nI j)), (2, .int y)]) hx hb dX11_measure_24 rfl hl (by decide) rfl (fun ls hl => ?_)
  refine lv_iload_n hx hb dX11_measure_25 rfl (lv_at hl 3 rfl) ?_
  by_cases c_26_0 : y = 0
  · skip
    refine lv_tableIn (tgt := 72) (off := 46) hx hb dX11_measure_26 (by rw [c_26_0]; decide) (by rw [c_26_0]; decide) (by rw [c_26_0]; rfl) (by decide) ?_
    refine lv_aload_n hx hb dX11_measure_72 rfl (lv_at hl 0 rfl) ?_
    refine lv_aload_n hx hb dX11_measure_73 rfl (lv_at hl 1 rfl) ?_
    refine q_get hC hW kX11_12 0 (ap_g1 (ap_g1 rfl)) (v := .ref (ad 0)) rfl dX11_measure_74 ?_
    refine q_get hC hW kX11_74 (1 + 0) (ap_g1 (ap_g2 rfl (Lg0 cc ad S))) (v := .ref (ad 1)) rfl dX11_measure_77 ?_
    refine q_get hC hW kX11_173 (1 + 1) (ap_g1 (ap_g2 rfl (Lg1 cc ad S))) (v := .int (S.1 0 4)) rfl dX11_measure_80 ?_
    refine q_VL hC hW (CtL.lift (c_X8_tensionAt l D cc ad S j (S.1 0 4) (by omega)) ([(h, .inr (11, [.ref (ad 0), .ref (a2 0)]))]) (LW cc a2 S2) rfl rfl) mX11_176 (1 + (j + 15)) (ap_g1 (ap_g2 rfl (Lg_f8 cc ad S j (by omega)))) rfl (by decide) rfl hl.1 rfl (Nat.le_of_ble_eq_true rfl) (by decide) dX11_measure_83 (fun H locs hW => ?_)
    exact hend _ _ _ _ _ _ (by simp only [sX11_measure, if_pos c_26_0]) rfl hW dX11_measure_86
  by_cases c_26_1 : y = 1
  · skip
    refine lv_tableIn (tgt := 87) (off := 61) hx hb dX11_measure_26 (by rw [c_26_1]; decide) (by rw [c_26_1]; decide) (by rw [c_26_1]; rfl) (by decide) ?_
    refine lv_aload_n hx hb dX11_measure_87 rfl (lv_at hl 0 rfl) ?_
    refine q_get hC hW kX11_180 (1 + (j + 15)) (ap_g1 (ap_g2 rfl (Lg_f8 cc ad S j (by omega)))) (v := .long (S.2 3 j)) rfl dX11_measure_88 ?_
    exact hend _ _ _ _ _ _ (by simp only [sX11_measure, if_neg c_26_0, if_pos c_26_1]) rfl hW dX11_measure_91
  by_cases c_26_2 : y = 2
  · skip
    refine lv_tableIn (tgt := 92) (off := 66) hx hb dX11_measure_26 (by rw [c_26_2]; decide) (by rw [c_26_2]; decide) (by rw [c_26_2]; rfl) (by decide) ?_
    refine lv_aload_n hx hb dX11_measure_92 rfl (lv_at hl 0 rfl) ?_
    refine q_VL hC hW (CtL.lift (c_X8_length l D cc ad S j (by omega)) ([(h, .inr (11, [.ref (ad 0), .ref (a2 0)]))]) (LW cc a2 S2) rfl rfl) mX11_184 (1 + (j + 15)) (ap_g1 (ap_g2 rfl (Lg_f8 cc ad S j (by omega)))) rfl (by decide) rfl hl.1 rfl (Nat.le_of_ble_eq_true rfl) (by decide) dX11_measure_93 (fun H locs hW => ?_)
    exact hend _ _ _ _ _ _ (by simp only [sX11_measure, if_neg c_26_0, if_neg c_26_1, if_pos c_26_2]) rfl hW dX11_measure_96
  by_cases c_26_3 : y = 3
  · skip
    refine lv_tableIn (tgt := 97) (off := 71) hx hb dX11_measure_26 (by rw [c_26_3]; decide) (by rw [c_26_3]; decide) (by rw [c_26_3]; rfl) (by decide) ?_
    refine lv_aload_n hx hb dX11_measure_97 rfl (lv_at hl 0 rfl) ?_
    refine q_get hC hW kX11_188 (1 + (j + 15)) (ap_g1 (ap_g2 rfl (Lg_f8 cc ad S j (by omega)))) (v := .long (S.2 4 j)) rfl dX11_measure_98 ?_
    exact hend _ _ _ _ _ _ (by simp only [sX11_measure, if_neg c_26_0, if_neg c_26_1, if_neg c_26_2, if_pos c_26_3]) rfl hW dX11_measure_101
  by_cases c_26_4 : y = 4
  · skip
    refine lv_tableIn (tgt := 102) (off := 76) hx hb dX11_measure_26 (by rw [c_26_4]; decide) (by rw [c_26_4]; decide) (by rw [c_26_4]; rfl) (by decide) ?_
    refine lv_aload_n hx hb dX11_measure_102 rfl (lv_at hl 0 rfl) ?_
    refine q_get hC hW kX11_191 (1 + (j + 15)) (ap_g1 (ap_g2 rfl (Lg_f8 cc ad S j (by omega)))) (v := .int (S.1 7 j)) rfl dX11_measure_103 ?_
    refine lv_i2l hx hb dX11_measure_106 rfl ?_
    exact hend _ _ _ _ _ _ (by simp only [sX11_measure, if_neg c_26_0, if_neg c_26_1, if_neg c_26_2, if_neg c_26_3, if_pos c_26_4]) rfl hW dX11_measure_107
  by_cases c_26_5 : y = 5
  · skip
    refine lv_tableIn (tgt := 108) (off := 82) hx hb dX11_measure_26 (by rw [c_26_5]; decide) (by rw [c_26_5]; decide) (by rw [c_26_5]; rfl) (by decide) ?_
    refine lv_aload_n hx hb dX11_measure_108 rfl (lv_at hl 1 rfl) ?_
    refine q_get hC hW kX11_12 0 (ap_g1 (ap_g1 rfl)) (v := .ref (ad 0)) rfl dX11_measure_109 ?_
    refine lv_iload_n hx hb dX11_measure_112 rfl (lv_at hl 2 rfl) ?_
    refine q_VI hC hW (CtI.lift (c_X3_marksIn l D cc ad S j (cN S) (cM S) hI.1.1 hI.2.2.1.1 (by omega) (by omega) (by omega)) ([(h, .inr (11, [.ref (ad 0), .ref (a2 0)]))]) (LW cc a2 S2) rfl rfl) mX11_194 (1 + 0) (ap_g1 (ap_g2 rfl (Lg0 cc ad S))) rfl (by decide) rfl hl.1 rfl (Nat.le_of_ble_eq_true rfl) (by decide) dX11_measure_113 (fun H locs hW => ?_)
    refine lv_i2l hx hb dX11_measure_116 rfl ?_
    exact hend _ _ _ _ _ _ (by simp only [sX11_measure, if_neg c_26_0, if_neg c_26_1, if_neg c_26_2, if_neg c_26_3, if_neg c_26_4, if_pos c_26_5]) rfl hW dX11_measure_117
  by_cases c_26_6 : y = 6
  · skip
    refine lv_tableIn (tgt := 118) (off := 92) hx hb dX11_measure_26 (by rw [c_26_6]; decide) (by rw [c_26_6]; decide) (by rw [c_26_6]; rfl) (by decide) ?_
    refine lv_aload_n hx hb dX11_measure_118 rfl (lv_at hl 0 rfl) ?_
    refine q_get hC hW kX11_197 (1 + (j + 15)) (ap_g1 (ap_g2 rfl (Lg_f8 cc ad S j (by omega)))) (v := .int (S.1 6 j)) rfl dX11_measure_119 ?_
    refine lv_iconst (v := 1) hx hb dX11_measure_122 (by decide) ?_
    refine lv_icmp_ne (tgt := 137) hx hb dX11_measure_123 (by decide) (fun c_123 => ?_) (fun c_123 => ?_)
    · skip
      refine q_ldc2 hC nX11_171 dX11_measure_137 ?_
      exact hend _ _ _ _ _ _ (by simp only [sX11_measure, if_neg c_26_0, if_neg c_26_1, if_neg c_26_2, if_neg c_26_3, if_neg c_26_4, if_neg c_26_5, if_pos c_26_6, if_neg c_123]) rfl hW dX11_measure_140
    · skip
      refine lv_aload_n hx hb dX11_measure_126 rfl (lv_at hl 0 rfl) ?_
      refine q_get hC hW kX11_51 (1 + (j + 15)) (ap_g1 (ap_g2 rfl (Lg_f8 cc ad S j (by omega)))) (v := .ref (ad (j + 21))) rfl dX11_measure_127 ?_
      refine q_get hC hW kX11_200 (1 + (j + 21)) (ap_g1 (ap_g2 rfl (Lg_f0 cc ad S j (by omega)))) (v := .int (S.1 13 j)) rfl dX11_measure_130 ?_
      refine lv_i2l hx hb dX11_measure_133 rfl ?_
      refine lv_goto (tgt := 140) hx hb dX11_measure_134 (by decide) ?_
      exact hend _ _ _ _ _ _ (by simp only [sX11_measure, if_neg c_26_0, if_neg c_26_1, if_neg c_26_2, if_neg c_26_3, if_neg c_26_4, if_neg c_26_5, if_pos c_26_6, if_pos c_123]) rfl hW dX11_measure_140
  by_cases c_26_7 : y = 7
  · skip
    refine lv_tableIn (tgt := 141) (off := 115) hx hb dX11_measure_26 (by rw [c_26_7]; decide) (by rw [c_26_7]; decide) (by rw [c_26_7]; rfl) (by decide) ?_
    refine lv_aload_n hx hb dX11_measure_141 rfl (lv_at hl 0 rfl) ?_
    refine q_get hC hW kX11_197 (1 + (j + 15)) (ap_g1 (ap_g2 rfl (Lg_f8 cc ad S j (by omega)))) (v := .int (S.1 6 j)) rfl dX11_measure_142 ?_
    refine lv_iconst (v := 1) hx hb dX11_measure_145 (by decide) ?_
    refine lv_icmp_ne (tgt := 160) hx hb dX11_measure_146 (by decide) (fun c_146 => ?_) (fun c_146 => ?_)
    · skip
      refine q_ldc2 hC nX11_171 dX11_measure_160 ?_
      exact hend _ _ _ _ _ _ (by simp only [sX11_measure, if_neg c_26_0, if_neg c_26_1, if_neg c_26_2, if_neg c_26_3, if_neg c_26_4, if_neg c_26_5, if_neg c_26_6, if_pos c_26_7, if_neg c_146]) rfl hW dX11_measure_163
    · skip
      refine lv_aload_n hx hb dX11_measure_149 rfl (lv_at hl 0 rfl) ?_
      refine q_get hC hW kX11_51 (1 + (j + 15)) (ap_g1 (ap_g2 rfl (Lg_f8 cc ad S j (by omega)))) (v := .ref (ad (j + 21))) rfl dX11_measure_150 ?_
      refine q_get hC hW kX11_203 (1 + (j + 21)) (ap_g1 (ap_g2 rfl (Lg_f0 cc ad S j (by omega)))) (v := .int (S.1 14 j)) rfl dX11_measure_153 ?_
      refine lv_i2l hx hb dX11_measure_156 rfl ?_
      refine lv_goto (tgt := 163) hx hb dX11_measure_157 (by decide) ?_
      exact hend _ _ _ _ _ _ (by simp only [sX11_measure, if_neg c_26_0, if_neg c_26_1, if_neg c_26_2, if_neg c_26_3, if_neg c_26_4, if_neg c_26_5, if_neg c_26_6, if_pos c_26_7, if_pos c_146]) rfl hW dX11_measure_163
  refine lv_tableOut (tgt := 164) hx hb dX11_measure_26 (sw_out 8 (by intro k hk; rcases (show k = 0 ∨ k = 1 ∨ k = 2 ∨ k = 3 ∨ k = 4 ∨ k = 5 ∨ k = 6 ∨ k = 7 by omega) with rfl | rfl | rfl | rfl | rfl | rfl | rfl | rfl <;> assumption)) (by decide) ?_
  refine q_ldc2 hC nX11_171 dX11_measure_164 ?_
  exact hend _ _ _ _ _ _ (by simp only [sX11_measure, if_neg c_26_0, if_neg c_26_1, if_neg c_26_2, if_neg c_26_3, if_neg c_26_4, if_neg c_26_5, if_neg c_26_6, if_neg c_26_7]) rfl hW dX11_measure_167
def sX11_measure_no (S S2 : St) (x : Int32) (y : Int32) : Int64 := (-9223372036854775808)
set_option maxHeartbeats 4000000 in
set_option maxRecDepth 100000 in
theorem c_X11_measure_no (l : Launch) (D : va_G) (cc : Nat → ClassId) (h : Nat) (ad a2 : Nat → Nat) (S S2 : St) (x : Int32) (y : Int32) (hno : sX3_hasSpan S x = 0) : CtL l D cc yX11_measure cX11_measure 4 3 [.ref h, .int x, .int y] (CW cc h ad a2 S S2) (sX11_measure_no S S2 x y) (CW cc h ad a2 S S2) := by
  refine CtL.of (plainFor_of_name (by decide +kernel)) (Nat.le_of_ble_eq_true rfl) ?_
  intro p e s m args below meth c A Q hC hW hend ls hl
  obtain ⟨⟨hx, hb, hml, hown, hts⟩, hNW⟩ := id hC
  unfold CW at hW hend
  have hl : lv_has ls 4 [(0, .ref h), (1, .int x), (2, .int y)] := hl
  refine lv_aload_n hx hb dX11_measure_0 rfl (lv_at hl 0 rfl) ?_
  refine q_get hC hW kX11_12 0 (ap_g1 (ap_g1 rfl)) (v := .ref (ad 0)) rfl dX11_measure_1 ?_
  refine lv_iload_n hx hb dX11_measure_4 rfl (lv_at hl 1 rfl) ?_
  refine q_VI hC hW (CtI.lift (c_X3_hasSpan l D cc ad S x) ([(h, .inr (11, [.ref (ad 0), .ref (a2 0)]))]) (LW cc a2 S2) rfl rfl) mX11_41 (1 + 0) (ap_g1 (ap_g2 rfl (Lg0 cc ad S))) rfl (by decide) rfl hl.1 rfl (Nat.le_of_ble_eq_true rfl) (by decide) dX11_measure_5 (fun H locs hW => ?_)
  refine q_ri (v := nI 0) hno ?_
  refine q_if_ne_n (tgt := 15) hx hb (a := 0) rfl (by omega) dX11_measure_8 (by decide) (fun c_8 => by exfalso; omega) (fun c_8 => ?_)
  refine q_ldc2 hC nX11_171 dX11_measure_11 ?_
  exact hend _ _ _ _ _ _ (by unfold sX11_measure_no; rfl) rfl hW dX11_measure_14
def sX11_roller (S S2 : St) (r : Nat) (y : Int32) : Int64 := (if y = 0 then (S.2 5 r) else (if y = 1 then (sX3_speedOf S r (cN S)) else (if y = 2 then ((S.1 17 r).toInt64) else (if y = 3 then ((S.1 18 r).toInt64) else (-9223372036854775808)))))
set_option maxHeartbeats 4000000 in
set_option maxRecDepth 100000 in
theorem c_X11_roller (l : Launch) (D : va_G) (cc : Nat → ClassId) (h : Nat) (ad a2 : Nat → Nat) (S S2 : St) (r : Nat) (y : Int32) (hI : Inv S) (hr : r ≤ cN S) : CtL l D cc yX11_roller cX11_roller 3 4 [.ref h, .int (nI r), .int y] (CW cc h ad a2 S S2) (sX11_roller S S2 r y) (CW cc h ad a2 S S2) := by
  refine CtL.of (plainFor_of_name (by decide +kernel)) (Nat.le_of_ble_eq_true rfl) ?_
  intro p e s m args below meth c A Q hC hW hend ls hl
  obtain ⟨⟨hx, hb, hml, hown, hts⟩, hNW⟩ := id hC
  unfold CW at hW hend
  have hl : lv_has ls 3 [(0, .ref h), (1, .int (nI r)), (2, .int y)] := hl
  obtain ⟨⟨-, hb1_hI, hb2_hI⟩, ⟨-, hq_hI⟩, ⟨-, hm_hI⟩, ⟨-, ho_hI⟩, ⟨-, hc_hI⟩⟩ := id hI
  refine lv_aload_n hx hb dX11_roller_0 rfl (lv_at hl 0 rfl) ?_
  refine q_get hC hW kX11_12 0 (ap_g1 (ap_g1 rfl)) (v := .ref (ad 0)) rfl dX11_roller_1 ?_
  refine lv_iload_n hx hb dX11_roller_4 rfl (lv_at hl 1 rfl) ?_
  refine q_VI hC hW (CtI.lift (c_X3_hasRoller l D cc ad S (nI r)) ([(h, .inr (11, [.ref (ad 0), .ref (a2 0)]))]) (LW cc a2 S2) rfl rfl) mX11_87 (1 + 0) (ap_g1 (ap_g2 rfl (Lg0 cc ad S))) rfl (by decide) rfl hl.1 rfl (Nat.le_of_ble_eq_true rfl) (by decide) dX11_roller_5 (fun H locs hW => ?_)
  refine q_ri (v := nI 1) (hasRoller_1 S (cN S) r hI.1.1 (by omega) hr) ?_
  refine q_if_ne_n (tgt := 15) hx hb (a := 1) rfl (by omega) dX11_roller_8 (by decide) (fun c_8 => ?_) (fun c_8 => by exfalso; omega)
  refine lv_iload_n hx hb dX11_roller_15 rfl (lv_at hl 2 rfl) ?_
  by_cases c_16_0 : y = 0
  · skip
    refine lv_tableIn (tgt := 48) (off := 32) hx hb dX11_roller_16 (by rw [c_16_0]; decide) (by rw [c_16_0]; decide) (by rw [c_16_0]; rfl) (by decide) ?_
    refine lv_aload_n hx hb dX11_roller_48 rfl (lv_at hl 0 rfl) ?_
    refine q_get hC hW kX11_12 0 (ap_g1 (ap_g1 rfl)) (v := .ref (ad 0)) rfl dX11_roller_49 ?_
    refine q_get hC hW kX11_90 (1 + 0) (ap_g1 (ap_g2 rfl (Lg0 cc ad S))) (v := .ref (ad 13)) rfl dX11_roller_52 ?_
    refine lv_iload_n hx hb dX11_roller_55 rfl (lv_at hl 1 rfl) ?_
    refine q_aald hC hW (1 + 13) 2 (ap_g1 (ap_g2 rfl (Lg13 cc ad S))) rfl (v := ad (r + 33)) r rfl (by omega) (by decide) rfl dX11_roller_56 ?_
    refine q_get hC hW kX11_206 (1 + (r + 33)) (ap_g1 (ap_g2 rfl (Lg_f7 cc ad S r (by omega)))) (v := .long (S.2 5 r)) rfl dX11_roller_57 ?_
    exact hend _ _ _ _ _ _ (by simp only [sX11_roller, if_pos c_16_0]) rfl hW dX11_roller_60
  by_cases c_16_1 : y = 1
  · skip
    refine lv_tableIn (tgt := 61) (off := 45) hx hb dX11_roller_16 (by rw [c_16_1]; decide) (by rw [c_16_1]; decide) (by rw [c_16_1]; rfl) (by decide) ?_
    refine lv_aload_n hx hb dX11_roller_61 rfl (lv_at hl 0 rfl) ?_
    refine q_get hC hW kX11_12 0 (ap_g1 (ap_g1 rfl)) (v := .ref (ad 0)) rfl dX11_roller_62 ?_
    refine lv_iload_n hx hb dX11_roller_65 rfl (lv_at hl 1 rfl) ?_
    refine q_VL hC hW (CtL.lift (c_X3_speedOf l D cc ad S r (cN S) hI.1.1 (by omega) (by omega)) ([(h, .inr (11, [.ref (ad 0), .ref (a2 0)]))]) (LW cc a2 S2) rfl rfl) mX11_209 (1 + 0) (ap_g1 (ap_g2 rfl (Lg0 cc ad S))) rfl (by decide) rfl hl.1 rfl (Nat.le_of_ble_eq_true rfl) (by decide) dX11_roller_66 (fun H locs hW => ?_)
    exact hend _ _ _ _ _ _ (by simp only [sX11_roller, if_neg c_16_0, if_pos c_16_1]) rfl hW dX11_roller_69
  by_cases c_16_2 : y = 2
  · skip
    refine lv_tableIn (tgt := 70) (off := 54) hx hb dX11_roller_16 (by rw [c_16_2]; decide) (by rw [c_16_2]; decide) (by rw [c_16_2]; rfl) (by decide) ?_
    refine lv_aload_n hx hb dX11_roller_70 rfl (lv_at hl 0 rfl) ?_
    refine q_get hC hW kX11_12 0 (ap_g1 (ap_g1 rfl)) (v := .ref (ad 0)) rfl dX11_roller_71 ?_
    refine q_get hC hW kX11_90 (1 + 0) (ap_g1 (ap_g2 rfl (Lg0 cc ad S))) (v := .ref (ad 13)) rfl dX11_roller_74 ?_
    refine lv_iload_n hx hb dX11_roller_77 rfl (lv_at hl 1 rfl) ?_
    refine q_aald hC hW (1 + 13) 2 (ap_g1 (ap_g2 rfl (Lg13 cc ad S))) rfl (v := ad (r + 33)) r rfl (by omega) (by decide) rfl dX11_roller_78 ?_
    refine q_get hC hW kX11_94 (1 + (r + 33)) (ap_g1 (ap_g2 rfl (Lg_f7 cc ad S r (by omega)))) (v := .int (S.1 17 r)) rfl dX11_roller_79 ?_
    refine lv_i2l hx hb dX11_roller_82 rfl ?_
    exact hend _ _ _ _ _ _ (by simp only [sX11_roller, if_neg c_16_0, if_neg c_16_1, if_pos c_16_2]) rfl hW dX11_roller_83
  by_cases c_16_3 : y = 3
  · skip
    refine lv_tableIn (tgt := 84) (off := 68) hx hb dX11_roller_16 (by rw [c_16_3]; decide) (by rw [c_16_3]; decide) (by rw [c_16_3]; rfl) (by decide) ?_
    refine lv_aload_n hx hb dX11_roller_84 rfl (lv_at hl 0 rfl) ?_
    refine q_get hC hW kX11_12 0 (ap_g1 (ap_g1 rfl)) (v := .ref (ad 0)) rfl dX11_roller_85 ?_
    refine q_get hC hW kX11_90 (1 + 0) (ap_g1 (ap_g2 rfl (Lg0 cc ad S))) (v := .ref (ad 13)) rfl dX11_roller_88 ?_
    refine lv_iload_n hx hb dX11_roller_91 rfl (lv_at hl 1 rfl) ?_
    refine q_aald hC hW (1 + 13) 2 (ap_g1 (ap_g2 rfl (Lg13 cc ad S))) rfl (v := ad (r + 33)) r rfl (by omega) (by decide) rfl dX11_roller_92 ?_
    refine q_get hC hW kX11_212 (1 + (r + 33)) (ap_g1 (ap_g2 rfl (Lg_f7 cc ad S r (by omega)))) (v := .int (S.1 18 r)) rfl dX11_roller_93 ?_
    refine lv_i2l hx hb dX11_roller_96 rfl ?_
    exact hend _ _ _ _ _ _ (by simp only [sX11_roller, if_neg c_16_0, if_neg c_16_1, if_neg c_16_2, if_pos c_16_3]) rfl hW dX11_roller_97
  refine lv_tableOut (tgt := 98) hx hb dX11_roller_16 (sw_out 4 (by intro k hk; rcases (show k = 0 ∨ k = 1 ∨ k = 2 ∨ k = 3 by omega) with rfl | rfl | rfl | rfl <;> assumption)) (by decide) ?_
  refine q_ldc2 hC nX11_171 dX11_roller_98 ?_
  exact hend _ _ _ _ _ _ (by simp only [sX11_roller, if_neg c_16_0, if_neg c_16_1, if_neg c_16_2, if_neg c_16_3]) rfl hW dX11_roller_101
def sX11_roller_no (S S2 : St) (x : Int32) (y : Int32) : Int64 := (-9223372036854775808)
set_option maxHeartbeats 4000000 in
set_option maxRecDepth 100000 in
theorem c_X11_roller_no (l : Launch) (D : va_G) (cc : Nat → ClassId) (h : Nat) (ad a2 : Nat → Nat) (S S2 : St) (x : Int32) (y : Int32) (hno : sX3_hasRoller S x = 0) : CtL l D cc yX11_roller cX11_roller 3 4 [.ref h, .int x, .int y] (CW cc h ad a2 S S2) (sX11_roller_no S S2 x y) (CW cc h ad a2 S S2) := by
  refine CtL.of (plainFor_of_name (by decide +kernel)) (Nat.le_of_ble_eq_true rfl) ?_
  intro p e s m args below meth c A Q hC hW hend ls hl
  obtain ⟨⟨hx, hb, hml, hown, hts⟩, hNW⟩ := id hC
  unfold CW at hW hend
  have hl : lv_has ls 3 [(0, .ref h), (1, .int x), (2, .int y)] := hl
  refine lv_aload_n hx hb dX11_roller_0 rfl (lv_at hl 0 rfl) ?_
  refine q_get hC hW kX11_12 0 (ap_g1 (ap_g1 rfl)) (v := .ref (ad 0)) rfl dX11_roller_1 ?_
  refine lv_iload_n hx hb dX11_roller_4 rfl (lv_at hl 1 rfl) ?_
  refine q_VI hC hW (CtI.lift (c_X3_hasRoller l D cc ad S x) ([(h, .inr (11, [.ref (ad 0), .ref (a2 0)]))]) (LW cc a2 S2) rfl rfl) mX11_87 (1 + 0) (ap_g1 (ap_g2 rfl (Lg0 cc ad S))) rfl (by decide) rfl hl.1 rfl (Nat.le_of_ble_eq_true rfl) (by decide) dX11_roller_5 (fun H locs hW => ?_)
  refine q_ri (v := nI 0) hno ?_
  refine q_if_ne_n (tgt := 15) hx hb (a := 0) rfl (by omega) dX11_roller_8 (by decide) (fun c_8 => by exfalso; omega) (fun c_8 => ?_)
  refine q_ldc2 hC nX11_171 dX11_roller_11 ?_
  exact hend _ _ _ _ _ _ (by unfold sX11_roller_no; rfl) rfl hW dX11_roller_14
def sX11_web (S S2 : St) (x : Int32) : Int64 := (if x = 0 then (S.2 0 0) else (if x = 1 then (sX9_queuedLength S (cQ S)) else (if x = 2 then (S.2 0 1) else (-9223372036854775808))))
set_option maxHeartbeats 4000000 in
set_option maxRecDepth 100000 in
theorem c_X11_web (l : Launch) (D : va_G) (cc : Nat → ClassId) (h : Nat) (ad a2 : Nat → Nat) (S S2 : St) (x : Int32) (hI : Inv S) : CtL l D cc yX11_web cX11_web 2 1 [.ref h, .int x] (CW cc h ad a2 S S2) (sX11_web S S2 x) (CW cc h ad a2 S S2) := by
  refine CtL.of (plainFor_of_name (by decide +kernel)) (Nat.le_of_ble_eq_true rfl) ?_
  intro p e s m args below meth c A Q hC hW hend ls hl
  obtain ⟨⟨hx, hb, hml, hown, hts⟩, hNW⟩ := id hC
  unfold CW at hW hend
  have hl : lv_has ls 2 [(0, .ref h), (1, .int x)] := hl
  obtain ⟨⟨-, hb1_hI, hb2_hI⟩, ⟨-, hq_hI⟩, ⟨-, hm_hI⟩, ⟨-, ho_hI⟩, ⟨-, hc_hI⟩⟩ := id hI
  refine lv_iload_n hx hb dX11_web_0 rfl (lv_at hl 1 rfl) ?_
  by_cases c_1_0 : x = 0
  · skip
    refine lv_tableIn (tgt := 28) (off := 27) hx hb dX11_web_1 (by rw [c_1_0]; decide) (by rw [c_1_0]; decide) (by rw [c_1_0]; rfl) (by decide) ?_
    refine lv_aload_n hx hb dX11_web_28 rfl (lv_at hl 0 rfl) ?_
    refine q_get hC hW kX11_12 0 (ap_g1 (ap_g1 rfl)) (v := .ref (ad 0)) rfl dX11_web_29 ?_
    refine q_get hC hW kX11_113 (1 + 0) (ap_g1 (ap_g2 rfl (Lg0 cc ad S))) (v := .ref (ad 3)) rfl dX11_web_32 ?_
    refine q_get hC hW kX11_215 (1 + 3) (ap_g1 (ap_g2 rfl (Lg3 cc ad S))) (v := .long (S.2 0 0)) rfl dX11_web_35 ?_
    exact hend _ _ _ _ _ _ (by simp only [sX11_web, if_pos c_1_0]) rfl hW dX11_web_38
  by_cases c_1_1 : x = 1
  · skip
    refine lv_tableIn (tgt := 39) (off := 38) hx hb dX11_web_1 (by rw [c_1_1]; decide) (by rw [c_1_1]; decide) (by rw [c_1_1]; rfl) (by decide) ?_
    refine lv_aload_n hx hb dX11_web_39 rfl (lv_at hl 0 rfl) ?_
    refine q_get hC hW kX11_12 0 (ap_g1 (ap_g1 rfl)) (v := .ref (ad 0)) rfl dX11_web_40 ?_
    refine q_get hC hW kX11_113 (1 + 0) (ap_g1 (ap_g2 rfl (Lg0 cc ad S))) (v := .ref (ad 3)) rfl dX11_web_43 ?_
    refine q_VL hC hW (CtL.lift (c_X9_queuedLength l D cc ad S (cQ S) hI.2.1.1 (by omega)) ([(h, .inr (11, [.ref (ad 0), .ref (a2 0)]))]) (LW cc a2 S2) rfl rfl) mX11_218 (1 + 3) (ap_g1 (ap_g2 rfl (Lg3 cc ad S))) rfl (by decide) rfl hl.1 rfl (Nat.le_of_ble_eq_true rfl) (by decide) dX11_web_46 (fun H locs hW => ?_)
    exact hend _ _ _ _ _ _ (by simp only [sX11_web, if_neg c_1_0, if_pos c_1_1]) rfl hW dX11_web_49
  by_cases c_1_2 : x = 2
  · skip
    refine lv_tableIn (tgt := 50) (off := 49) hx hb dX11_web_1 (by rw [c_1_2]; decide) (by rw [c_1_2]; decide) (by rw [c_1_2]; rfl) (by decide) ?_
    refine lv_aload_n hx hb dX11_web_50 rfl (lv_at hl 0 rfl) ?_
    refine q_get hC hW kX11_12 0 (ap_g1 (ap_g1 rfl)) (v := .ref (ad 0)) rfl dX11_web_51 ?_
    refine q_get hC hW kX11_122 (1 + 0) (ap_g1 (ap_g2 rfl (Lg0 cc ad S))) (v := .ref (ad 5)) rfl dX11_web_54 ?_
    refine q_get hC hW kX11_221 (1 + 5) (ap_g1 (ap_g2 rfl (Lg5 cc ad S))) (v := .long (S.2 0 1)) rfl dX11_web_57 ?_
    exact hend _ _ _ _ _ _ (by simp only [sX11_web, if_neg c_1_0, if_neg c_1_1, if_pos c_1_2]) rfl hW dX11_web_60
  refine lv_tableOut (tgt := 61) hx hb dX11_web_1 (sw_out 3 (by intro k hk; rcases (show k = 0 ∨ k = 1 ∨ k = 2 by omega) with rfl | rfl | rfl <;> assumption)) (by decide) ?_
  refine q_ldc2 hC nX11_171 dX11_web_61 ?_
  exact hend _ _ _ _ _ _ (by simp only [sX11_web, if_neg c_1_0, if_neg c_1_1, if_neg c_1_2]) rfl hW dX11_web_64
def sX11_markDistance (S S2 : St) (j : Nat) : Int64 := ((S.2 1 j) - (sX3_placeAtRoller S (cN S) (cN S)))
set_option maxHeartbeats 4000000 in
set_option maxRecDepth 100000 in
theorem c_X11_markDistance (l : Launch) (D : va_G) (cc : Nat → ClassId) (h : Nat) (ad a2 : Nat → Nat) (S S2 : St) (j : Nat) (hI : Inv S) (hj : j < cM S) : CtL l D cc yX11_markDistance cX11_markDistance 2 1 [.ref h, .int (nI j)] (CW cc h ad a2 S S2) (sX11_markDistance S S2 j) (CW cc h ad a2 S S2) := by
  refine CtL.of (plainFor_of_name (by decide +kernel)) (Nat.le_of_ble_eq_true rfl) ?_
  intro p e s m args below meth c A Q hC hW hend ls hl
  obtain ⟨⟨hx, hb, hml, hown, hts⟩, hNW⟩ := id hC
  unfold CW at hW hend
  have hl : lv_has ls 2 [(0, .ref h), (1, .int (nI j))] := hl
  obtain ⟨⟨-, hb1_hI, hb2_hI⟩, ⟨-, hq_hI⟩, ⟨-, hm_hI⟩, ⟨-, ho_hI⟩, ⟨-, hc_hI⟩⟩ := id hI
  refine lv_iload_n hx hb dX11_markDistance_0 rfl (lv_at hl 1 rfl) ?_
  refine q_if_lt_n (tgt := 18) hx hb (a := j) rfl (by omega) dX11_markDistance_1 (by decide) (fun c_1 => by exfalso; omega) (fun c_1 => ?_)
  refine lv_iload_n hx hb dX11_markDistance_4 rfl (lv_at hl 1 rfl) ?_
  refine lv_aload_n hx hb dX11_markDistance_5 rfl (lv_at hl 0 rfl) ?_
  refine q_get hC hW kX11_12 0 (ap_g1 (ap_g1 rfl)) (v := .ref (ad 0)) rfl dX11_markDistance_6 ?_
  refine q_get hC hW kX11_146 (1 + 0) (ap_g1 (ap_g2 rfl (Lg0 cc ad S))) (v := .ref (ad 6)) rfl dX11_markDistance_9 ?_
  refine q_get hC hW kX11_150 (1 + 6) (ap_g1 (ap_g2 rfl (Lg6 cc ad S))) (v := .int (nI (cM S))) (congrArg (fun z => some (Value.int z)) hI.2.2.1.1) dX11_markDistance_12 ?_
  refine q_icmp_lt_n (tgt := 22) hx hb (a := j) (b := (cM S)) rfl rfl (by omega) (by omega) dX11_markDistance_15 (by decide) (fun c_15 => ?_) (fun c_15 => by exfalso; omega)
  refine lv_aload_n hx hb dX11_markDistance_22 rfl (lv_at hl 0 rfl) ?_
  refine q_get hC hW kX11_12 0 (ap_g1 (ap_g1 rfl)) (v := .ref (ad 0)) rfl dX11_markDistance_23 ?_
  refine q_get hC hW kX11_146 (1 + 0) (ap_g1 (ap_g2 rfl (Lg0 cc ad S))) (v := .ref (ad 6)) rfl dX11_markDistance_26 ?_
  refine q_get hC hW kX11_223 (1 + 6) (ap_g1 (ap_g2 rfl (Lg6 cc ad S))) (v := .ref (ad 7)) rfl dX11_markDistance_29 ?_
  refine lv_iload_n hx hb dX11_markDistance_32 rfl (lv_at hl 1 rfl) ?_
  refine q_lald hC hW (1 + 7) (ap_g1 (ap_g2 rfl (Lg7 cc ad S))) (v := (S.2 1 j)) j rfl (by omega) (by decide) rfl dX11_markDistance_33 ?_
  refine lv_aload_n hx hb dX11_markDistance_34 rfl (lv_at hl 0 rfl) ?_
  refine q_get hC hW kX11_12 0 (ap_g1 (ap_g1 rfl)) (v := .ref (ad 0)) rfl dX11_markDistance_35 ?_
  refine lv_aload_n hx hb dX11_markDistance_38 rfl (lv_at hl 0 rfl) ?_
  refine q_get hC hW kX11_12 0 (ap_g1 (ap_g1 rfl)) (v := .ref (ad 0)) rfl dX11_markDistance_39 ?_
  refine q_get hC hW kX11_143 (1 + 0) (ap_g1 (ap_g2 rfl (Lg0 cc ad S))) (v := .int (nI (cN S))) (congrArg (fun z => some (Value.int z)) hI.1.1) dX11_markDistance_42 ?_
  refine q_VL hC hW (CtL.lift (c_X3_placeAtRoller l D cc ad S (cN S) (cN S) hI.1.1 (by omega) (by omega)) ([(h, .inr (11, [.ref (ad 0), .ref (a2 0)]))]) (LW cc a2 S2) rfl rfl) mX11_227 (1 + 0) (ap_g1 (ap_g2 rfl (Lg0 cc ad S))) rfl (by decide) rfl hl.1 rfl (Nat.le_of_ble_eq_true rfl) (by decide) dX11_markDistance_45 (fun H locs hW => ?_)
  refine lv_lsub hx hb dX11_markDistance_48 ?_
  exact hend _ _ _ _ _ _ (by unfold sX11_markDistance; rfl) rfl hW dX11_markDistance_49
def sX11_markDistance_no (S S2 : St) (x : Int32) : Int64 := (-9223372036854775808)
set_option maxHeartbeats 4000000 in
set_option maxRecDepth 100000 in
theorem c_X11_markDistance_no (l : Launch) (D : va_G) (cc : Nat → ClassId) (h : Nat) (ad a2 : Nat → Nat) (S S2 : St) (x : Int32) (hI : Inv S) (hno : x < 0 ∨ nI (cM S) ≤ x) : CtL l D cc yX11_markDistance cX11_markDistance 2 1 [.ref h, .int x] (CW cc h ad a2 S S2) (sX11_markDistance_no S S2 x) (CW cc h ad a2 S S2) := by
  refine CtL.of (plainFor_of_name (by decide +kernel)) (Nat.le_of_ble_eq_true rfl) ?_
  intro p e s m args below meth c A Q hC hW hend ls hl
  obtain ⟨⟨hx, hb, hml, hown, hts⟩, hNW⟩ := id hC
  unfold CW at hW hend
  have hl : lv_has ls 2 [(0, .ref h), (1, .int x)] := hl
  obtain ⟨⟨-, hb1_hI, hb2_hI⟩, ⟨-, hq_hI⟩, ⟨-, hm_hI⟩, ⟨-, ho_hI⟩, ⟨-, hc_hI⟩⟩ := id hI
  refine lv_iload_n hx hb dX11_markDistance_0 rfl (lv_at hl 1 rfl) ?_
  refine lv_if_lt (tgt := 18) hx hb dX11_markDistance_1 (by decide) (fun c_1 => ?_) (fun c_1 => ?_)
  · skip
    refine q_ldc2 hC nX11_171 dX11_markDistance_18 ?_
    exact hend _ _ _ _ _ _ (by simp only [sX11_markDistance_no, if_pos c_1]) rfl hW dX11_markDistance_21
  · skip
    refine lv_iload_n hx hb dX11_markDistance_4 rfl (lv_at hl 1 rfl) ?_
    refine lv_aload_n hx hb dX11_markDistance_5 rfl (lv_at hl 0 rfl) ?_
    refine q_get hC hW kX11_12 0 (ap_g1 (ap_g1 rfl)) (v := .ref (ad 0)) rfl dX11_markDistance_6 ?_
    refine q_get hC hW kX11_146 (1 + 0) (ap_g1 (ap_g2 rfl (Lg0 cc ad S))) (v := .ref (ad 6)) rfl dX11_markDistance_9 ?_
    refine q_get hC hW kX11_150 (1 + 6) (ap_g1 (ap_g2 rfl (Lg6 cc ad S))) (v := .int (nI (cM S))) (congrArg (fun z => some (Value.int z)) hI.2.2.1.1) dX11_markDistance_12 ?_
    refine lv_icmp_lt (tgt := 22) hx hb dX11_markDistance_15 (by decide) (fun c_15 => by exfalso; exact absurd c_15 (Int32.not_lt.mpr (hno.resolve_left c_1))) (fun c_15 => ?_)
    refine q_ldc2 hC nX11_171 dX11_markDistance_18 ?_
    exact hend _ _ _ _ _ _ (by simp only [sX11_markDistance_no, if_neg c_1]) rfl hW dX11_markDistance_21
def LX11_slackSpans_4_1 (S S2 : St)  : Nat → Int32
  | 0 => 0
  | k + 1 => (if (S.1 7 k) < 20 then (LX11_slackSpans_4_1 S S2 k) else ((LX11_slackSpans_4_1 S S2 k) ||| (1 <<< ((nI k) &&& 31))))
def sX11_slackSpans (S S2 : St)  : Int32 := (LX11_slackSpans_4_1 S S2 (cN S))
set_option maxHeartbeats 4000000 in
set_option maxRecDepth 100000 in
theorem c_X11_slackSpans (l : Launch) (D : va_G) (cc : Nat → ClassId) (h : Nat) (ad a2 : Nat → Nat) (S S2 : St) (hI : Inv S) : CtI l D cc yX11_slackSpans cX11_slackSpans 3 .int 0 [.ref h] (CW cc h ad a2 S S2) (sX11_slackSpans S S2 ) (CW cc h ad a2 S S2) := by
  refine CtI.of (plainFor_of_name (by decide +kernel)) rfl (Nat.le_of_ble_eq_true rfl) ?_
  intro p e s m args below meth c A Q hC hW hend ls hl
  obtain ⟨⟨hx, hb, hml, hown, hts⟩, hNW⟩ := id hC
  unfold CW at hW hend
  have hl : lv_has ls 3 [(0, .ref h)] := hl
  obtain ⟨⟨-, hb1_hI, hb2_hI⟩, ⟨-, hq_hI⟩, ⟨-, hm_hI⟩, ⟨-, ho_hI⟩, ⟨-, hc_hI⟩⟩ := id hI
  refine lv_iconst (v := 0) hx hb dX11_slackSpans_0 (by decide) ?_
  refine lv_istore_n (lv' := [(1, .int 0), (0, .ref h)]) hx hb dX11_slackSpans_1 rfl hl (by decide) rfl (fun ls hl => ?_)
  refine lv_iconst (v := 0) hx hb dX11_slackSpans_2 (by decide) ?_
  refine lv_istore_n (lv' := [(2, .int 0), (1, .int 0), (0, .ref h)]) hx hb dX11_slackSpans_3 rfl hl (by decide) rfl (fun ls hl => ?_)
  have loop1 : ∀ (rn k : Nat), k + rn = (cN S) → ∀ (H : Heap) (locs : List Loc) (ls : Array Slot), Wd D cc ([(h, .inr (11, [.ref (ad 0), .ref (a2 0)]))] ++ LW cc ad S ++ LW cc a2 S2) A s.heap H locs s → lv_has ls 3 [(0, .ref h), (1, .int (LX11_slackSpans_4_1 S S2 k)), (2, .int (nI k))] → W p l e (rmD 0) s m args below meth c H locs 0 0 Q (F0 m 4 ls []) := by
    intro rn
    induction rn with
    | zero =>
      intro k hk H locs ls hW hl
      obtain rfl : (cN S) = k := by omega
      refine lv_iload_n hx hb dX11_slackSpans_4 rfl (lv_at hl 2 rfl) ?_
      refine lv_aload_n hx hb dX11_slackSpans_5 rfl (lv_at hl 0 rfl) ?_
      refine q_get hC hW kX11_12 0 (ap_g1 (ap_g1 rfl)) (v := .ref (ad 0)) rfl dX11_slackSpans_6 ?_
      refine q_get hC hW kX11_143 (1 + 0) (ap_g1 (ap_g2 rfl (Lg0 cc ad S))) (v := .int (nI (cN S))) (congrArg (fun z => some (Value.int z)) hI.1.1) dX11_slackSpans_9 ?_
      refine q_icmp_ge_n (tgt := 44) hx hb (a := (cN S)) (b := (cN S)) rfl rfl (by omega) (by omega) dX11_slackSpans_12 (by decide) (fun c_12 => ?_) (fun c_12 => by exfalso; omega)
      refine lv_iload_n hx hb dX11_slackSpans_44 rfl (lv_at hl 1 rfl) ?_
      exact hend _ _ _ _ _ _ (by unfold sX11_slackSpans; rfl) rfl hW dX11_slackSpans_45
    | succ rn ih =>
      intro k hk H locs ls hW hl
      have hkN : k < (cN S) := by omega
      refine lv_iload_n hx hb dX11_slackSpans_4 rfl (lv_at hl 2 rfl) ?_
      refine lv_aload_n hx hb dX11_slackSpans_5 rfl (lv_at hl 0 rfl) ?_
      refine q_get hC hW kX11_12 0 (ap_g1 (ap_g1 rfl)) (v := .ref (ad 0)) rfl dX11_slackSpans_6 ?_
      refine q_get hC hW kX11_143 (1 + 0) (ap_g1 (ap_g2 rfl (Lg0 cc ad S))) (v := .int (nI (cN S))) (congrArg (fun z => some (Value.int z)) hI.1.1) dX11_slackSpans_9 ?_
      refine q_icmp_ge_n (tgt := 44) hx hb (a := k) (b := (cN S)) rfl rfl (by omega) (by omega) dX11_slackSpans_12 (by decide) (fun c_12 => by exfalso; omega) (fun c_12 => ?_)
      refine lv_aload_n hx hb dX11_slackSpans_15 rfl (lv_at hl 0 rfl) ?_
      refine q_get hC hW kX11_12 0 (ap_g1 (ap_g1 rfl)) (v := .ref (ad 0)) rfl dX11_slackSpans_16 ?_
      refine q_get hC hW kX11_47 (1 + 0) (ap_g1 (ap_g2 rfl (Lg0 cc ad S))) (v := .ref (ad 12)) rfl dX11_slackSpans_19 ?_
      refine lv_iload_n hx hb dX11_slackSpans_22 rfl (lv_at hl 2 rfl) ?_
      refine q_aald hC hW (1 + 12) 3 (ap_g1 (ap_g2 rfl (Lg12 cc ad S))) rfl (v := ad (k + 15)) k rfl (by omega) (by decide) rfl dX11_slackSpans_23 ?_
      refine q_get hC hW kX11_191 (1 + (k + 15)) (ap_g1 (ap_g2 rfl (Lg_f8 cc ad S k (by omega)))) (v := .int (S.1 7 k)) rfl dX11_slackSpans_24 ?_
      refine lv_bipush (v := 20) hx hb dX11_slackSpans_27 (by decide) ?_
      refine lv_icmp_lt (tgt := 38) hx hb dX11_slackSpans_29 (by decide) (fun c_29 => ?_) (fun c_29 => ?_)
      · skip
        refine lv_iinc (v := (nI (k + 1))) (lv' := [(2, .int (nI (k + 1))), (0, .ref h), (1, .int (LX11_slackSpans_4_1 S S2 k))]) hx hb dX11_slackSpans_38 hl (k := 2) rfl (nq_inc k 1) (by decide) rfl (fun ls hl => ?_)
        refine lv_goto (tgt := 4) hx hb dX11_slackSpans_41 (by decide) ?_
        exact ih (k + 1) (by omega) _ _ _ hW (lv_sub hl [1, 2, 0] (by simp only [LX11_slackSpans_4_1, if_pos c_29]; rfl))
      · skip
        refine lv_iload_n hx hb dX11_slackSpans_32 rfl (lv_at hl 1 rfl) ?_
        refine lv_iconst (v := 1) hx hb dX11_slackSpans_33 (by decide) ?_
        refine lv_iload_n hx hb dX11_slackSpans_34 rfl (lv_at hl 2 rfl) ?_
        refine lv_ishl hx hb dX11_slackSpans_35 ?_
        refine lv_ior hx hb dX11_slackSpans_36 ?_
        refine lv_istore_n (lv' := [(1, .int ((LX11_slackSpans_4_1 S S2 k) ||| (1 <<< ((nI k) &&& 31)))), (0, .ref h), (2, .int (nI k))]) hx hb dX11_slackSpans_37 rfl hl (by decide) rfl (fun ls hl => ?_)
        refine lv_iinc (v := (nI (k + 1))) (lv' := [(2, .int (nI (k + 1))), (1, .int ((LX11_slackSpans_4_1 S S2 k) ||| (1 <<< ((nI k) &&& 31)))), (0, .ref h)]) hx hb dX11_slackSpans_38 hl (k := 2) rfl (nq_inc k 1) (by decide) rfl (fun ls hl => ?_)
        refine lv_goto (tgt := 4) hx hb dX11_slackSpans_41 (by decide) ?_
        exact ih (k + 1) (by omega) _ _ _ hW (lv_sub hl [2, 1, 0] (by simp only [LX11_slackSpans_4_1, if_neg c_29]; rfl))
  exact loop1 (cN S) 0 (by omega) _ _ _ hW (lv_sub hl [2, 1, 0] rfl)
def sX11_event (S S2 : St) (j : Nat) (y : Int32) : Int32 := (if (sX11_isWithin y 0 2) = 0 then (-1000002) else (if y = 0 then (S.1 2 ((cO S + j) % 30)) else (if y = 1 then (S.1 3 ((cO S + j) % 30)) else (S.1 4 ((cO S + j) % 30)))))
set_option maxHeartbeats 4000000 in
set_option maxRecDepth 100000 in
theorem c_X11_event (l : Launch) (D : va_G) (cc : Nat → ClassId) (h : Nat) (ad a2 : Nat → Nat) (S S2 : St) (j : Nat) (y : Int32) (hI : Inv S) (hj : j < cC S) : CtI l D cc yX11_event cX11_event 4 .int 2 [.ref h, .int (nI j), .int y] (CW cc h ad a2 S S2) (sX11_event S S2 j y) (CW cc h ad a2 S S2) := by
  refine CtI.of (plainFor_of_name (by decide +kernel)) rfl (Nat.le_of_ble_eq_true rfl) ?_
  intro p e s m args below meth c A Q hC hW hend ls hl
  obtain ⟨⟨hx, hb, hml, hown, hts⟩, hNW⟩ := id hC
  unfold CW at hW hend
  have hl : lv_has ls 4 [(0, .ref h), (1, .int (nI j)), (2, .int y)] := hl
  obtain ⟨⟨-, hb1_hI, hb2_hI⟩, ⟨-, hq_hI⟩, ⟨-, hm_hI⟩, ⟨-, ho_hI⟩, ⟨-, hc_hI⟩⟩ := id hI
  refine lv_iload_n hx hb dX11_event_0 rfl (lv_at hl 1 rfl) ?_
  refine q_if_lt_n (tgt := 13) hx hb (a := j) rfl (by omega) dX11_event_1 (by decide) (fun c_1 => by exfalso; omega) (fun c_1 => ?_)
  refine lv_iload_n hx hb dX11_event_4 rfl (lv_at hl 2 rfl) ?_
  refine lv_iconst (v := 0) hx hb dX11_event_5 (by decide) ?_
  refine lv_iconst (v := 2) hx hb dX11_event_6 (by decide) ?_
  refine q_SI hC hW (c_X11_isWithin l D cc _ y 0 2) mX11_23 (by decide) rfl hl.1 rfl (Nat.le_of_ble_eq_true rfl) (by decide) dX11_event_7 (fun H locs hW => ?_)
  refine lv_if_ne (tgt := 16) hx hb dX11_event_10 (by decide) (fun c_10 => ?_) (fun c_10 => ?_)
  · skip
    refine lv_iload_n hx hb dX11_event_16 rfl (lv_at hl 1 rfl) ?_
    refine lv_aload_n hx hb dX11_event_17 rfl (lv_at hl 0 rfl) ?_
    refine q_get hC hW kX11_12 0 (ap_g1 (ap_g1 rfl)) (v := .ref (ad 0)) rfl dX11_event_18 ?_
    refine q_get hC hW kX11_161 (1 + 0) (ap_g1 (ap_g2 rfl (Lg0 cc ad S))) (v := .ref (ad 8)) rfl dX11_event_21 ?_
    refine q_get hC hW kX11_165 (1 + 8) (ap_g1 (ap_g2 rfl (Lg8 cc ad S))) (v := .int (nI (cC S))) (congrArg (fun z => some (Value.int z)) hI.2.2.2.2.1) dX11_event_24 ?_
    refine q_icmp_lt_n (tgt := 33) hx hb (a := j) (b := (cC S)) rfl rfl (by omega) (by omega) dX11_event_27 (by decide) (fun c_27 => ?_) (fun c_27 => by exfalso; omega)
    refine lv_aload_n hx hb dX11_event_33 rfl (lv_at hl 0 rfl) ?_
    refine q_get hC hW kX11_12 0 (ap_g1 (ap_g1 rfl)) (v := .ref (ad 0)) rfl dX11_event_34 ?_
    refine q_get hC hW kX11_161 (1 + 0) (ap_g1 (ap_g2 rfl (Lg0 cc ad S))) (v := .ref (ad 8)) rfl dX11_event_37 ?_
    refine lv_iload_n hx hb dX11_event_40 rfl (lv_at hl 1 rfl) ?_
    refine q_VI hC hW (CtI.lift (c_X2_slotOf l D cc ad S (nI j)) ([(h, .inr (11, [.ref (ad 0), .ref (a2 0)]))]) (LW cc a2 S2) rfl rfl) mX11_231 (1 + 8) (ap_g1 (ap_g2 rfl (Lg8 cc ad S))) rfl (by decide) rfl hl.1 rfl (Nat.le_of_ble_eq_true rfl) (by decide) dX11_event_41 (fun H locs hW => ?_)
    refine q_ri (v := nI ((cO S + j) % 30)) (slot_nat S (cO S) j hI.2.2.2.1.1 (by omega) (by omega)) ?_
    refine lv_istore_n (lv' := [(3, .int (nI ((cO S + j) % 30))), (0, .ref h), (1, .int (nI j)), (2, .int y)]) hx hb dX11_event_44 rfl hl (by decide) rfl (fun ls hl => ?_)
    refine lv_iload_n hx hb dX11_event_45 rfl (lv_at hl 3 rfl) ?_
    refine lv_if_ne (tgt := 62) hx hb dX11_event_46 (by decide) (fun c_46 => ?_) (fun c_46 => ?_)
    · skip
      refine lv_iload_n hx hb dX11_event_62 rfl (lv_at hl 3 rfl) ?_
      refine lv_iconst (v := 1) hx hb dX11_event_63 (by decide) ?_
      refine lv_icmp_ne (tgt := 82) hx hb dX11_event_64 (by decide) (fun c_64 => ?_) (fun c_64 => ?_)
      · skip
        refine lv_aload_n hx hb dX11_event_82 rfl (lv_at hl 1 rfl) ?_
        refine q_get hC hW kX11_12 0 (ap_g1 (ap_g1 rfl)) (v := .ref (ad 0)) rfl dX11_event_83 ?_
        refine q_get hC hW kX11_161 (1 + 0) (ap_g1 (ap_g2 rfl (Lg0 cc ad S))) (v := .ref (ad 8)) rfl dX11_event_86 ?_
        refine q_get hC hW kX11_241 (1 + 8) (ap_g1 (ap_g2 rfl (Lg8 cc ad S))) (v := .ref (ad 11)) rfl dX11_event_89 ?_
        refine lv_iload_n hx hb dX11_event_92 rfl (lv_at hl 0 rfl) ?_
        refine q_iald hC hW (1 + 11) (ap_g1 (ap_g2 rfl (Lg11 cc ad S))) (v := (S.1 4 ((cO S + j) % 30))) ((cO S + j) % 30) rfl (Nat.mod_lt _ (by decide)) (by decide) rfl dX11_event_93 ?_
        exact hend _ _ _ _ _ _ (by simp only [sX11_event, if_neg c_10, if_neg c_46, if_neg c_64]) rfl hW dX11_event_94
      · skip
        refine lv_aload_n hx hb dX11_event_67 rfl (lv_at hl 1 rfl) ?_
        refine q_get hC hW kX11_12 0 (ap_g1 (ap_g1 rfl)) (v := .ref (ad 0)) rfl dX11_event_68 ?_
        refine q_get hC hW kX11_161 (1 + 0) (ap_g1 (ap_g2 rfl (Lg0 cc ad S))) (v := .ref (ad 8)) rfl dX11_event_71 ?_
        refine q_get hC hW kX11_238 (1 + 8) (ap_g1 (ap_g2 rfl (Lg8 cc ad S))) (v := .ref (ad 10)) rfl dX11_event_74 ?_
        refine lv_iload_n hx hb dX11_event_77 rfl (lv_at hl 0 rfl) ?_
        refine q_iald hC hW (1 + 10) (ap_g1 (ap_g2 rfl (Lg10 cc ad S))) (v := (S.1 3 ((cO S + j) % 30))) ((cO S + j) % 30) rfl (Nat.mod_lt _ (by decide)) (by decide) rfl dX11_event_78 ?_
        refine lv_goto (tgt := 94) hx hb dX11_event_79 (by decide) ?_
        exact hend _ _ _ _ _ _ (by simp only [sX11_event, if_neg c_10, if_neg c_46, if_pos c_64]) rfl hW dX11_event_94
    · skip
      refine lv_aload_n hx hb dX11_event_49 rfl (lv_at hl 1 rfl) ?_
      refine q_get hC hW kX11_12 0 (ap_g1 (ap_g1 rfl)) (v := .ref (ad 0)) rfl dX11_event_50 ?_
      refine q_get hC hW kX11_161 (1 + 0) (ap_g1 (ap_g2 rfl (Lg0 cc ad S))) (v := .ref (ad 8)) rfl dX11_event_53 ?_
      refine q_get hC hW kX11_234 (1 + 8) (ap_g1 (ap_g2 rfl (Lg8 cc ad S))) (v := .ref (ad 9)) rfl dX11_event_56 ?_
      refine lv_iload_n hx hb dX11_event_59 rfl (lv_at hl 0 rfl) ?_
      refine q_iald hC hW (1 + 9) (ap_g1 (ap_g2 rfl (Lg9 cc ad S))) (v := (S.1 2 ((cO S + j) % 30))) ((cO S + j) % 30) rfl (Nat.mod_lt _ (by decide)) (by decide) rfl dX11_event_60 ?_
      exact hend _ _ _ _ _ _ (by simp only [sX11_event, if_neg c_10, if_pos c_46]) rfl hW dX11_event_61
  · skip
    refine q_ldc hC nX11_27 dX11_event_13 ?_
    exact hend _ _ _ _ _ _ (by simp only [sX11_event, if_pos c_10]) rfl hW dX11_event_15
def sX11_event_no (S S2 : St) (x : Int32) (y : Int32) : Int32 := (if x < 0 then (-1000002) else (if (sX11_isWithin y 0 2) = 0 then (-1000002) else (-1000005)))
set_option maxHeartbeats 4000000 in
set_option maxRecDepth 100000 in
theorem c_X11_event_no (l : Launch) (D : va_G) (cc : Nat → ClassId) (h : Nat) (ad a2 : Nat → Nat) (S S2 : St) (x : Int32) (y : Int32) (hI : Inv S) (hno : x < 0 ∨ nI (cC S) ≤ x) : CtI l D cc yX11_event cX11_event 4 .int 2 [.ref h, .int x, .int y] (CW cc h ad a2 S S2) (sX11_event_no S S2 x y) (CW cc h ad a2 S S2) := by
  refine CtI.of (plainFor_of_name (by decide +kernel)) rfl (Nat.le_of_ble_eq_true rfl) ?_
  intro p e s m args below meth c A Q hC hW hend ls hl
  obtain ⟨⟨hx, hb, hml, hown, hts⟩, hNW⟩ := id hC
  unfold CW at hW hend
  have hl : lv_has ls 4 [(0, .ref h), (1, .int x), (2, .int y)] := hl
  obtain ⟨⟨-, hb1_hI, hb2_hI⟩, ⟨-, hq_hI⟩, ⟨-, hm_hI⟩, ⟨-, ho_hI⟩, ⟨-, hc_hI⟩⟩ := id hI
  refine lv_iload_n hx hb dX11_event_0 rfl (lv_at hl 1 rfl) ?_
  refine lv_if_lt (tgt := 13) hx hb dX11_event_1 (by decide) (fun c_1 => ?_) (fun c_1 => ?_)
  · skip
    refine q_ldc hC nX11_27 dX11_event_13 ?_
    exact hend _ _ _ _ _ _ (by simp only [sX11_event_no, if_pos c_1]) rfl hW dX11_event_15
  · skip
    refine lv_iload_n hx hb dX11_event_4 rfl (lv_at hl 2 rfl) ?_
    refine lv_iconst (v := 0) hx hb dX11_event_5 (by decide) ?_
    refine lv_iconst (v := 2) hx hb dX11_event_6 (by decide) ?_
    refine q_SI hC hW (c_X11_isWithin l D cc _ y 0 2) mX11_23 (by decide) rfl hl.1 rfl (Nat.le_of_ble_eq_true rfl) (by decide) dX11_event_7 (fun H locs hW => ?_)
    refine lv_if_ne (tgt := 16) hx hb dX11_event_10 (by decide) (fun c_10 => ?_) (fun c_10 => ?_)
    · skip
      refine lv_iload_n hx hb dX11_event_16 rfl (lv_at hl 1 rfl) ?_
      refine lv_aload_n hx hb dX11_event_17 rfl (lv_at hl 0 rfl) ?_
      refine q_get hC hW kX11_12 0 (ap_g1 (ap_g1 rfl)) (v := .ref (ad 0)) rfl dX11_event_18 ?_
      refine q_get hC hW kX11_161 (1 + 0) (ap_g1 (ap_g2 rfl (Lg0 cc ad S))) (v := .ref (ad 8)) rfl dX11_event_21 ?_
      refine q_get hC hW kX11_165 (1 + 8) (ap_g1 (ap_g2 rfl (Lg8 cc ad S))) (v := .int (nI (cC S))) (congrArg (fun z => some (Value.int z)) hI.2.2.2.2.1) dX11_event_24 ?_
      refine lv_icmp_lt (tgt := 33) hx hb dX11_event_27 (by decide) (fun c_27 => by exfalso; exact absurd c_27 (Int32.not_lt.mpr (hno.resolve_left c_1))) (fun c_27 => ?_)
      refine q_ldc hC nX11_230 dX11_event_30 ?_
      exact hend _ _ _ _ _ _ (by simp only [sX11_event_no, if_neg c_1, if_neg c_10]) rfl hW dX11_event_32
    · skip
      refine q_ldc hC nX11_27 dX11_event_13 ?_
      exact hend _ _ _ _ _ _ (by simp only [sX11_event_no, if_neg c_1, if_pos c_10]) rfl hW dX11_event_15
def sX11_steadyTension (S S2 : St) (j : Nat) : Int32 := (if (S.1 0 9) = 0 then (-1000005) else ((sX10_steadyTensionAt S (sX3_nominalSpeed S (j + 1) (S.1 0 9) (cN S)) ((S.1 0 9).toInt64)).toInt32))
set_option maxHeartbeats 4000000 in
set_option maxRecDepth 100000 in
theorem c_X11_steadyTension (l : Launch) (D : va_G) (cc : Nat → ClassId) (h : Nat) (ad a2 : Nat → Nat) (S S2 : St) (j : Nat) (hI : Inv S) (hj : j < cN S) : CtI l D cc yX11_steadyTension cX11_steadyTension 3 .int 3 [.ref h, .int (nI j)] (CW cc h ad a2 S S2) (sX11_steadyTension S S2 j) (CW cc h ad a2 S S2) := by
  refine CtI.of (plainFor_of_name (by decide +kernel)) rfl (Nat.le_of_ble_eq_true rfl) ?_
  intro p e s m args below meth c A Q hC hW hend ls hl
  obtain ⟨⟨hx, hb, hml, hown, hts⟩, hNW⟩ := id hC
  unfold CW at hW hend
  have hl : lv_has ls 3 [(0, .ref h), (1, .int (nI j))] := hl
  obtain ⟨⟨-, hb1_hI, hb2_hI⟩, ⟨-, hq_hI⟩, ⟨-, hm_hI⟩, ⟨-, ho_hI⟩, ⟨-, hc_hI⟩⟩ := id hI
  refine lv_aload_n hx hb dX11_steadyTension_0 rfl (lv_at hl 0 rfl) ?_
  refine q_get hC hW kX11_12 0 (ap_g1 (ap_g1 rfl)) (v := .ref (ad 0)) rfl dX11_steadyTension_1 ?_
  refine lv_iload_n hx hb dX11_steadyTension_4 rfl (lv_at hl 1 rfl) ?_
  refine q_VI hC hW (CtI.lift (c_X3_hasSpan l D cc ad S (nI j)) ([(h, .inr (11, [.ref (ad 0), .ref (a2 0)]))]) (LW cc a2 S2) rfl rfl) mX11_41 (1 + 0) (ap_g1 (ap_g2 rfl (Lg0 cc ad S))) rfl (by decide) rfl hl.1 rfl (Nat.le_of_ble_eq_true rfl) (by decide) dX11_steadyTension_5 (fun H locs hW => ?_)
  refine q_ri (v := nI 1) (hasSpan_1 S j hI hj) ?_
  refine q_if_ne_n (tgt := 14) hx hb (a := 1) rfl (by omega) dX11_steadyTension_8 (by decide) (fun c_8 => ?_) (fun c_8 => by exfalso; omega)
  refine lv_aload_n hx hb dX11_steadyTension_14 rfl (lv_at hl 0 rfl) ?_
  refine q_get hC hW kX11_12 0 (ap_g1 (ap_g1 rfl)) (v := .ref (ad 0)) rfl dX11_steadyTension_15 ?_
  refine q_get hC hW kX11_99 (1 + 0) (ap_g1 (ap_g2 rfl (Lg0 cc ad S))) (v := .ref (ad 2)) rfl dX11_steadyTension_18 ?_
  refine q_get hC hW kX11_243 (1 + 2) (ap_g1 (ap_g2 rfl (Lg2 cc ad S))) (v := .int (S.1 0 9)) rfl dX11_steadyTension_21 ?_
  refine lv_istore_n (lv' := [(2, .int (S.1 0 9)), (0, .ref h), (1, .int (nI j))]) hx hb dX11_steadyTension_24 rfl hl (by decide) rfl (fun ls hl => ?_)
  refine lv_iload_n hx hb dX11_steadyTension_25 rfl (lv_at hl 0 rfl) ?_
  refine lv_if_ne (tgt := 32) hx hb dX11_steadyTension_26 (by decide) (fun c_26 => ?_) (fun c_26 => ?_)
  · skip
    refine lv_aload_n hx hb dX11_steadyTension_32 rfl (lv_at hl 1 rfl) ?_
    refine q_get hC hW kX11_12 0 (ap_g1 (ap_g1 rfl)) (v := .ref (ad 0)) rfl dX11_steadyTension_33 ?_
    refine q_get hC hW kX11_74 (1 + 0) (ap_g1 (ap_g2 rfl (Lg0 cc ad S))) (v := .ref (ad 1)) rfl dX11_steadyTension_36 ?_
    refine lv_aload_n hx hb dX11_steadyTension_39 rfl (lv_at hl 1 rfl) ?_
    refine q_get hC hW kX11_12 0 (ap_g1 (ap_g1 rfl)) (v := .ref (ad 0)) rfl dX11_steadyTension_40 ?_
    refine lv_iload_n hx hb dX11_steadyTension_43 rfl (lv_at hl 2 rfl) ?_
    refine lv_iconst (v := 1) hx hb dX11_steadyTension_44 (by decide) ?_
    refine lv_iadd hx hb dX11_steadyTension_45 ?_
    refine q_ri (v := nI (j + 1)) (nq_add (a := j) (b := 1) rfl rfl) ?_
    refine lv_iload_n hx hb dX11_steadyTension_46 rfl (lv_at hl 0 rfl) ?_
    refine q_VL hC hW (CtL.lift (c_X3_nominalSpeed l D cc ad S (j + 1) (S.1 0 9) (cN S) hI.1.1 (by omega) (by omega)) ([(h, .inr (11, [.ref (ad 0), .ref (a2 0)]))]) (LW cc a2 S2) rfl rfl) mX11_246 (1 + 0) (ap_g1 (ap_g2 rfl (Lg0 cc ad S))) rfl (by decide) rfl hl.1 rfl (Nat.le_of_ble_eq_true rfl) (by decide) dX11_steadyTension_47 (fun H locs hW => ?_)
    refine lv_iload_n hx hb dX11_steadyTension_50 rfl (lv_at hl 0 rfl) ?_
    refine lv_i2l hx hb dX11_steadyTension_51 rfl ?_
    refine q_VL hC hW (CtL.lift (c_X10_steadyTensionAt l D cc ad S (sX3_nominalSpeed S (j + 1) (S.1 0 9) (cN S)) ((S.1 0 9).toInt64)) ([(h, .inr (11, [.ref (ad 0), .ref (a2 0)]))]) (LW cc a2 S2) rfl rfl) mX11_250 (1 + 1) (ap_g1 (ap_g2 rfl (Lg1 cc ad S))) rfl (by decide) rfl hl.1 rfl (Nat.le_of_ble_eq_true rfl) (by decide) dX11_steadyTension_52 (fun H locs hW => ?_)
    refine lv_l2i hx hb dX11_steadyTension_55 rfl ?_
    exact hend _ _ _ _ _ _ (by simp only [sX11_steadyTension, if_neg c_26]) rfl hW dX11_steadyTension_56
  · skip
    refine q_ldc hC nX11_230 dX11_steadyTension_29 ?_
    exact hend _ _ _ _ _ _ (by simp only [sX11_steadyTension, if_pos c_26]) rfl hW dX11_steadyTension_31
def sX11_steadyTension_no (S S2 : St) (x : Int32) : Int32 := (-1000001)
set_option maxHeartbeats 4000000 in
set_option maxRecDepth 100000 in
theorem c_X11_steadyTension_no (l : Launch) (D : va_G) (cc : Nat → ClassId) (h : Nat) (ad a2 : Nat → Nat) (S S2 : St) (x : Int32) (hno : sX3_hasSpan S x = 0) : CtI l D cc yX11_steadyTension cX11_steadyTension 3 .int 3 [.ref h, .int x] (CW cc h ad a2 S S2) (sX11_steadyTension_no S S2 x) (CW cc h ad a2 S S2) := by
  refine CtI.of (plainFor_of_name (by decide +kernel)) rfl (Nat.le_of_ble_eq_true rfl) ?_
  intro p e s m args below meth c A Q hC hW hend ls hl
  obtain ⟨⟨hx, hb, hml, hown, hts⟩, hNW⟩ := id hC
  unfold CW at hW hend
  have hl : lv_has ls 3 [(0, .ref h), (1, .int x)] := hl
  refine lv_aload_n hx hb dX11_steadyTension_0 rfl (lv_at hl 0 rfl) ?_
  refine q_get hC hW kX11_12 0 (ap_g1 (ap_g1 rfl)) (v := .ref (ad 0)) rfl dX11_steadyTension_1 ?_
  refine lv_iload_n hx hb dX11_steadyTension_4 rfl (lv_at hl 1 rfl) ?_
  refine q_VI hC hW (CtI.lift (c_X3_hasSpan l D cc ad S x) ([(h, .inr (11, [.ref (ad 0), .ref (a2 0)]))]) (LW cc a2 S2) rfl rfl) mX11_41 (1 + 0) (ap_g1 (ap_g2 rfl (Lg0 cc ad S))) rfl (by decide) rfl hl.1 rfl (Nat.le_of_ble_eq_true rfl) (by decide) dX11_steadyTension_5 (fun H locs hW => ?_)
  refine q_ri (v := nI 0) hno ?_
  refine q_if_ne_n (tgt := 14) hx hb (a := 0) rfl (by omega) dX11_steadyTension_8 (by decide) (fun c_8 => by exfalso; omega) (fun c_8 => ?_)
  refine q_ldc hC nX11_45 dX11_steadyTension_11 ?_
  exact hend _ _ _ _ _ _ (by unfold sX11_steadyTension_no; rfl) rfl hW dX11_steadyTension_13
def LX11_bestDraw_88_7 (S S2 : St) (j : Nat) (y : Int32) : Nat → Int64
  | 0 => (sX10_steadyGap S y (sX11_drawn (sX3_nominalSpeed S j (S.1 0 9) (cN S)) (-20000)) ((S.1 0 9).toInt64))
  | k + 1 => (if (LX11_bestDraw_88_7 S S2 j y k) ≤ (sX10_steadyGap S y (sX11_drawn (sX3_nominalSpeed S j (S.1 0 9) (cN S)) (xDr (k + 1))) ((S.1 0 9).toInt64)) then (LX11_bestDraw_88_7 S S2 j y k) else (sX10_steadyGap S y (sX11_drawn (sX3_nominalSpeed S j (S.1 0 9) (cN S)) (xDr (k + 1))) ((S.1 0 9).toInt64)))
def LX11_bestDraw_88_6 (S S2 : St) (j : Nat) (y : Int32) : Nat → Int32
  | 0 => (-20000)
  | k + 1 => (if (LX11_bestDraw_88_7 S S2 j y k) ≤ (sX10_steadyGap S y (sX11_drawn (sX3_nominalSpeed S j (S.1 0 9) (cN S)) (xDr (k + 1))) ((S.1 0 9).toInt64)) then (LX11_bestDraw_88_6 S S2 j y k) else (xDr (k + 1)))
def sX11_bestDraw (S S2 : St) (j : Nat) (y : Int32) : Int32 := (if (sX11_isWithin y 0 1000000) = 0 then (-1000002) else (if (S.1 0 9) = 0 then (-1000005) else (LX11_bestDraw_88_6 S S2 j y 800)))
set_option maxHeartbeats 4000000 in
set_option maxRecDepth 100000 in
theorem c_X11_bestDraw (l : Launch) (D : va_G) (cc : Nat → ClassId) (h : Nat) (ad a2 : Nat → Nat) (S S2 : St) (j : Nat) (y : Int32) (hI : Inv S) (hj : j < cN S) : CtI l D cc yX11_bestDraw cX11_bestDraw 12 .int 4 [.ref h, .int (nI j), .int y] (CW cc h ad a2 S S2) (sX11_bestDraw S S2 j y) (CW cc h ad a2 S S2) := by
  refine CtI.of (plainFor_of_name (by decide +kernel)) rfl (Nat.le_of_ble_eq_true rfl) ?_
  intro p e s m args below meth c A Q hC hW hend ls hl
  obtain ⟨⟨hx, hb, hml, hown, hts⟩, hNW⟩ := id hC
  unfold CW at hW hend
  have hl : lv_has ls 12 [(0, .ref h), (1, .int (nI j)), (2, .int y)] := hl
  obtain ⟨⟨-, hb1_hI, hb2_hI⟩, ⟨-, hq_hI⟩, ⟨-, hm_hI⟩, ⟨-, ho_hI⟩, ⟨-, hc_hI⟩⟩ := id hI
  refine lv_aload_n hx hb dX11_bestDraw_0 rfl (lv_at hl 0 rfl) ?_
  refine q_get hC hW kX11_12 0 (ap_g1 (ap_g1 rfl)) (v := .ref (ad 0)) rfl dX11_bestDraw_1 ?_
  refine lv_iload_n hx hb dX11_bestDraw_4 rfl (lv_at hl 1 rfl) ?_
  refine q_VI hC hW (CtI.lift (c_X3_hasSpan l D cc ad S (nI j)) ([(h, .inr (11, [.ref (ad 0), .ref (a2 0)]))]) (LW cc a2 S2) rfl rfl) mX11_41 (1 + 0) (ap_g1 (ap_g2 rfl (Lg0 cc ad S))) rfl (by decide) rfl hl.1 rfl (Nat.le_of_ble_eq_true rfl) (by decide) dX11_bestDraw_5 (fun H locs hW => ?_)
  refine q_ri (v := nI 1) (hasSpan_1 S j hI hj) ?_
  refine q_if_ne_n (tgt := 14) hx hb (a := 1) rfl (by omega) dX11_bestDraw_8 (by decide) (fun c_8 => ?_) (fun c_8 => by exfalso; omega)
  refine lv_iload_n hx hb dX11_bestDraw_14 rfl (lv_at hl 2 rfl) ?_
  refine lv_iconst (v := 0) hx hb dX11_bestDraw_15 (by decide) ?_
  refine q_ldc hC nX11_46 dX11_bestDraw_16 ?_
  refine q_SI hC hW (c_X11_isWithin l D cc _ y 0 1000000) mX11_23 (by decide) rfl hl.1 rfl (Nat.le_of_ble_eq_true rfl) (by decide) dX11_bestDraw_18 (fun H locs hW => ?_)
  refine lv_if_ne (tgt := 27) hx hb dX11_bestDraw_21 (by decide) (fun c_21 => ?_) (fun c_21 => ?_)
  · skip
    refine lv_aload_n hx hb dX11_bestDraw_27 rfl (lv_at hl 0 rfl) ?_
    refine q_get hC hW kX11_12 0 (ap_g1 (ap_g1 rfl)) (v := .ref (ad 0)) rfl dX11_bestDraw_28 ?_
    refine q_get hC hW kX11_99 (1 + 0) (ap_g1 (ap_g2 rfl (Lg0 cc ad S))) (v := .ref (ad 2)) rfl dX11_bestDraw_31 ?_
    refine q_get hC hW kX11_243 (1 + 2) (ap_g1 (ap_g2 rfl (Lg2 cc ad S))) (v := .int (S.1 0 9)) rfl dX11_bestDraw_34 ?_
    refine lv_istore_n (lv' := [(3, .int (S.1 0 9)), (0, .ref h), (1, .int (nI j)), (2, .int y)]) hx hb dX11_bestDraw_37 rfl hl (by decide) rfl (fun ls hl => ?_)
    refine lv_iload_n hx hb dX11_bestDraw_38 rfl (lv_at hl 0 rfl) ?_
    refine lv_if_ne (tgt := 45) hx hb dX11_bestDraw_39 (by decide) (fun c_39 => ?_) (fun c_39 => ?_)
    · skip
      refine lv_aload_n hx hb dX11_bestDraw_45 rfl (lv_at hl 1 rfl) ?_
      refine q_get hC hW kX11_12 0 (ap_g1 (ap_g1 rfl)) (v := .ref (ad 0)) rfl dX11_bestDraw_46 ?_
      refine lv_iload_n hx hb dX11_bestDraw_49 rfl (lv_at hl 2 rfl) ?_
      refine lv_iload_n hx hb dX11_bestDraw_50 rfl (lv_at hl 0 rfl) ?_
      refine q_VL hC hW (CtL.lift (c_X3_nominalSpeed l D cc ad S j (S.1 0 9) (cN S) hI.1.1 (by omega) (by omega)) ([(h, .inr (11, [.ref (ad 0), .ref (a2 0)]))]) (LW cc a2 S2) rfl rfl) mX11_246 (1 + 0) (ap_g1 (ap_g2 rfl (Lg0 cc ad S))) rfl (by decide) rfl hl.1 rfl (Nat.le_of_ble_eq_true rfl) (by decide) dX11_bestDraw_51 (fun H locs hW => ?_)
      refine lv_lstore (lv' := [(4, .long (sX3_nominalSpeed S j (S.1 0 9) (cN S))), (3, .int (S.1 0 9)), (0, .ref h), (1, .int (nI j)), (2, .int y)]) hx hb dX11_bestDraw_54 hl (by decide) rfl (fun ls hl => ?_)
      refine lv_sipush (v := (-20000)) hx hb dX11_bestDraw_56 (by decide) ?_
      refine lv_istore (lv' := [(6, .int (-20000)), (4, .long (sX3_nominalSpeed S j (S.1 0 9) (cN S))), (3, .int (S.1 0 9)), (0, .ref h), (1, .int (nI j)), (2, .int y)]) hx hb dX11_bestDraw_59 hl (by decide) rfl (fun ls hl => ?_)
      refine lv_aload_n hx hb dX11_bestDraw_61 rfl (lv_at hl 3 rfl) ?_
      refine q_get hC hW kX11_12 0 (ap_g1 (ap_g1 rfl)) (v := .ref (ad 0)) rfl dX11_bestDraw_62 ?_
      refine q_get hC hW kX11_74 (1 + 0) (ap_g1 (ap_g2 rfl (Lg0 cc ad S))) (v := .ref (ad 1)) rfl dX11_bestDraw_65 ?_
      refine lv_iload_n hx hb dX11_bestDraw_68 rfl (lv_at hl 5 rfl) ?_
      refine lv_lload hx hb dX11_bestDraw_69 (lv_at hl 1 rfl) ?_
      refine lv_iload hx hb dX11_bestDraw_71 (lv_at hl 0 rfl) ?_
      refine q_SL hC hW (c_X11_drawn l D cc _ (sX3_nominalSpeed S j (S.1 0 9) (cN S)) (-20000)) mX11_254 (by decide) rfl hl.1 rfl (Nat.le_of_ble_eq_true rfl) (by decide) dX11_bestDraw_73 (fun H locs hW => ?_)
      refine lv_iload_n hx hb dX11_bestDraw_76 rfl (lv_at hl 2 rfl) ?_
      refine lv_i2l hx hb dX11_bestDraw_77 rfl ?_
      refine q_VL hC hW (CtL.lift (c_X10_steadyGap l D cc ad S y (sX11_drawn (sX3_nominalSpeed S j (S.1 0 9) (cN S)) (-20000)) ((S.1 0 9).toInt64)) ([(h, .inr (11, [.ref (ad 0), .ref (a2 0)]))]) (LW cc a2 S2) rfl rfl) mX11_258 (1 + 1) (ap_g1 (ap_g2 rfl (Lg1 cc ad S))) rfl (by decide) rfl hl.1 rfl (Nat.le_of_ble_eq_true rfl) (by decide) dX11_bestDraw_78 (fun H locs hW => ?_)
      refine lv_lstore (lv' := [(7, .long (sX10_steadyGap S y (sX11_drawn (sX3_nominalSpeed S j (S.1 0 9) (cN S)) (-20000)) ((S.1 0 9).toInt64))), (6, .int (-20000)), (4, .long (sX3_nominalSpeed S j (S.1 0 9) (cN S))), (3, .int (S.1 0 9)), (0, .ref h), (1, .int (nI j)), (2, .int y)]) hx hb dX11_bestDraw_81 hl (by decide) rfl (fun ls hl => ?_)
      refine lv_sipush (v := (-19950)) hx hb dX11_bestDraw_83 (by decide) ?_
      refine lv_istore (lv' := [(9, .int (-19950)), (7, .long (sX10_steadyGap S y (sX11_drawn (sX3_nominalSpeed S j (S.1 0 9) (cN S)) (-20000)) ((S.1 0 9).toInt64))), (6, .int (-20000)), (4, .long (sX3_nominalSpeed S j (S.1 0 9) (cN S))), (3, .int (S.1 0 9)), (0, .ref h), (1, .int (nI j)), (2, .int y)]) hx hb dX11_bestDraw_86 hl (by decide) rfl (fun ls hl => ?_)
      have loop1 : ∀ (rn k : Nat), k + rn = 800 → ∀ (H : Heap) (locs : List Loc) (ls : Array Slot), Wd D cc ([(h, .inr (11, [.ref (ad 0), .ref (a2 0)]))] ++ LW cc ad S ++ LW cc a2 S2) A s.heap H locs s → lv_has ls 12 [(0, .ref h), (1, .int (nI j)), (2, .int y), (3, .int (S.1 0 9)), (4, .long (sX3_nominalSpeed S j (S.1 0 9) (cN S))), (6, .int (LX11_bestDraw_88_6 S S2 j y k)), (7, .long (LX11_bestDraw_88_7 S S2 j y k)), (9, .int (xDr (k + 1)))] → W p l e (rmD 4) s m args below meth c H locs 0 0 Q (F0 m 88 ls []) := by
        intro rn
        induction rn with
        | zero =>
          intro k hk H locs ls hW hl
          obtain rfl : 800 = k := by omega
          refine lv_iload hx hb dX11_bestDraw_88 (lv_at hl 7 rfl) ?_
          refine lv_sipush (v := 20000) hx hb dX11_bestDraw_90 (by decide) ?_
          refine lv_icmp_gt (tgt := 140) hx hb dX11_bestDraw_93 (by decide) (fun c_93 => ?_) (fun c_93 => by exfalso; first | exact c_93 xDr_out | exact xDr_in _ (by omega) c_93)
          refine lv_iload hx hb dX11_bestDraw_140 (lv_at hl 5 rfl) ?_
          exact hend _ _ _ _ _ _ (by simp only [sX11_bestDraw, if_neg c_21, if_neg c_39]) rfl hW dX11_bestDraw_142
        | succ rn ih =>
          intro k hk H locs ls hW hl
          have hkN : k < 800 := by omega
          refine lv_iload hx hb dX11_bestDraw_88 (lv_at hl 7 rfl) ?_
          refine lv_sipush (v := 20000) hx hb dX11_bestDraw_90 (by decide) ?_
          refine lv_icmp_gt (tgt := 140) hx hb dX11_bestDraw_93 (by decide) (fun c_93 => by exfalso; first | exact c_93 xDr_out | exact xDr_in _ (by omega) c_93) (fun c_93 => ?_)
          refine lv_aload_n hx hb dX11_bestDraw_96 rfl (lv_at hl 0 rfl) ?_
          refine q_get hC hW kX11_12 0 (ap_g1 (ap_g1 rfl)) (v := .ref (ad 0)) rfl dX11_bestDraw_97 ?_
          refine q_get hC hW kX11_74 (1 + 0) (ap_g1 (ap_g2 rfl (Lg0 cc ad S))) (v := .ref (ad 1)) rfl dX11_bestDraw_100 ?_
          refine lv_iload_n hx hb dX11_bestDraw_103 rfl (lv_at hl 2 rfl) ?_
          refine lv_lload hx hb dX11_bestDraw_104 (lv_at hl 4 rfl) ?_
          refine lv_iload hx hb dX11_bestDraw_106 (lv_at hl 7 rfl) ?_
          refine q_SL hC hW (c_X11_drawn l D cc _ (sX3_nominalSpeed S j (S.1 0 9) (cN S)) (xDr (k + 1))) mX11_254 (by decide) rfl hl.1 rfl (Nat.le_of_ble_eq_true rfl) (by decide) dX11_bestDraw_108 (fun H locs hW => ?_)
          refine lv_iload_n hx hb dX11_bestDraw_111 rfl (lv_at hl 3 rfl) ?_
          refine lv_i2l hx hb dX11_bestDraw_112 rfl ?_
          refine q_VL hC hW (CtL.lift (c_X10_steadyGap l D cc ad S y (sX11_drawn (sX3_nominalSpeed S j (S.1 0 9) (cN S)) (xDr (k + 1))) ((S.1 0 9).toInt64)) ([(h, .inr (11, [.ref (ad 0), .ref (a2 0)]))]) (LW cc a2 S2) rfl rfl) mX11_258 (1 + 1) (ap_g1 (ap_g2 rfl (Lg1 cc ad S))) rfl (by decide) rfl hl.1 rfl (Nat.le_of_ble_eq_true rfl) (by decide) dX11_bestDraw_113 (fun H locs hW => ?_)
          refine lv_lstore (lv' := [(10, .long (sX10_steadyGap S y (sX11_drawn (sX3_nominalSpeed S j (S.1 0 9) (cN S)) (xDr (k + 1))) ((S.1 0 9).toInt64))), (0, .ref h), (1, .int (nI j)), (2, .int y), (3, .int (S.1 0 9)), (4, .long (sX3_nominalSpeed S j (S.1 0 9) (cN S))), (6, .int (LX11_bestDraw_88_6 S S2 j y k)), (7, .long (LX11_bestDraw_88_7 S S2 j y k)), (9, .int (xDr (k + 1)))]) hx hb dX11_bestDraw_116 hl (by decide) rfl (fun ls hl => ?_)
          refine lv_lload hx hb dX11_bestDraw_118 (lv_at hl 0 rfl) ?_
          refine lv_lload hx hb dX11_bestDraw_120 (lv_at hl 7 rfl) ?_
          refine q_jge (tgt := 134) hC dX11_bestDraw_122 dX11_bestDraw_123 (by decide) (fun c_122 => ?_) (fun c_122 => ?_)
          · skip
            refine lv_iinc (v := ((xDr (k + 1)) + 50)) (lv' := [(9, .int ((xDr (k + 1)) + 50)), (10, .long (sX10_steadyGap S y (sX11_drawn (sX3_nominalSpeed S j (S.1 0 9) (cN S)) (xDr (k + 1))) ((S.1 0 9).toInt64))), (0, .ref h), (1, .int (nI j)), (2, .int y), (3, .int (S.1 0 9)), (4, .long (sX3_nominalSpeed S j (S.1 0 9) (cN S))), (6, .int (LX11_bestDraw_88_6 S S2 j y k)), (7, .long (LX11_bestDraw_88_7 S S2 j y k))]) hx hb dX11_bestDraw_134 hl (k := 8) rfl rfl (by decide) rfl (fun ls hl => ?_)
            refine lv_goto (tgt := 88) hx hb dX11_bestDraw_137 (by decide) ?_
            exact ih (k + 1) (by omega) _ _ _ hW (lv_sub hl [2, 3, 4, 5, 6, 7, 8, 0] (by simp only [LX11_bestDraw_88_7, LX11_bestDraw_88_6, xDr_s, if_neg c_21, if_neg c_39, if_pos c_122]; rfl))
          · skip
            refine lv_lload hx hb dX11_bestDraw_126 (lv_at hl 0 rfl) ?_
            refine lv_lstore (lv' := [(7, .long (sX10_steadyGap S y (sX11_drawn (sX3_nominalSpeed S j (S.1 0 9) (cN S)) (xDr (k + 1))) ((S.1 0 9).toInt64))), (10, .long (sX10_steadyGap S y (sX11_drawn (sX3_nominalSpeed S j (S.1 0 9) (cN S)) (xDr (k + 1))) ((S.1 0 9).toInt64))), (0, .ref h), (1, .int (nI j)), (2, .int y), (3, .int (S.1 0 9)), (4, .long (sX3_nominalSpeed S j (S.1 0 9) (cN S))), (6, .int (LX11_bestDraw_88_6 S S2 j y k)), (9, .int (xDr (k + 1)))]) hx hb dX11_bestDraw_128 hl (by decide) rfl (fun ls hl => ?_)
            refine lv_iload hx hb dX11_bestDraw_130 (lv_at hl 8 rfl) ?_
            refine lv_istore (lv' := [(6, .int (xDr (k + 1))), (7, .long (sX10_steadyGap S y (sX11_drawn (sX3_nominalSpeed S j (S.1 0 9) (cN S)) (xDr (k + 1))) ((S.1 0 9).toInt64))), (10, .long (sX10_steadyGap S y (sX11_drawn (sX3_nominalSpeed S j (S.1 0 9) (cN S)) (xDr (k + 1))) ((S.1 0 9).toInt64))), (0, .ref h), (1, .int (nI j)), (2, .int y), (3, .int (S.1 0 9)), (4, .long (sX3_nominalSpeed S j (S.1 0 9) (cN S))), (9, .int (xDr (k + 1)))]) hx hb dX11_bestDraw_132 hl (by decide) rfl (fun ls hl => ?_)
            refine lv_iinc (v := ((xDr (k + 1)) + 50)) (lv' := [(9, .int ((xDr (k + 1)) + 50)), (6, .int (xDr (k + 1))), (7, .long (sX10_steadyGap S y (sX11_drawn (sX3_nominalSpeed S j (S.1 0 9) (cN S)) (xDr (k + 1))) ((S.1 0 9).toInt64))), (10, .long (sX10_steadyGap S y (sX11_drawn (sX3_nominalSpeed S j (S.1 0 9) (cN S)) (xDr (k + 1))) ((S.1 0 9).toInt64))), (0, .ref h), (1, .int (nI j)), (2, .int y), (3, .int (S.1 0 9)), (4, .long (sX3_nominalSpeed S j (S.1 0 9) (cN S)))]) hx hb dX11_bestDraw_134 hl (k := 8) rfl rfl (by decide) rfl (fun ls hl => ?_)
            refine lv_goto (tgt := 88) hx hb dX11_bestDraw_137 (by decide) ?_
            exact ih (k + 1) (by omega) _ _ _ hW (lv_sub hl [4, 5, 6, 7, 8, 1, 2, 0] (by simp only [LX11_bestDraw_88_7, LX11_bestDraw_88_6, xDr_s, if_neg c_21, if_neg c_39, if_neg c_122]; rfl))
      exact loop1 800 0 (by omega) _ _ _ hW (lv_sub hl [5, 6, 7, 4, 3, 2, 1, 0] rfl)
    · skip
      refine q_ldc hC nX11_230 dX11_bestDraw_42 ?_
      exact hend _ _ _ _ _ _ (by simp only [sX11_bestDraw, if_neg c_21, if_pos c_39]) rfl hW dX11_bestDraw_44
  · skip
    refine q_ldc hC nX11_27 dX11_bestDraw_24 ?_
    exact hend _ _ _ _ _ _ (by simp only [sX11_bestDraw, if_pos c_21]) rfl hW dX11_bestDraw_26
def sX11_bestDraw_no (S S2 : St) (x : Int32) (y : Int32) : Int32 := (-1000001)
set_option maxHeartbeats 4000000 in
set_option maxRecDepth 100000 in
theorem c_X11_bestDraw_no (l : Launch) (D : va_G) (cc : Nat → ClassId) (h : Nat) (ad a2 : Nat → Nat) (S S2 : St) (x : Int32) (y : Int32) (hno : sX3_hasSpan S x = 0) : CtI l D cc yX11_bestDraw cX11_bestDraw 12 .int 4 [.ref h, .int x, .int y] (CW cc h ad a2 S S2) (sX11_bestDraw_no S S2 x y) (CW cc h ad a2 S S2) := by
  refine CtI.of (plainFor_of_name (by decide +kernel)) rfl (Nat.le_of_ble_eq_true rfl) ?_
  intro p e s m args below meth c A Q hC hW hend ls hl
  obtain ⟨⟨hx, hb, hml, hown, hts⟩, hNW⟩ := id hC
  unfold CW at hW hend
  have hl : lv_has ls 12 [(0, .ref h), (1, .int x), (2, .int y)] := hl
  refine lv_aload_n hx hb dX11_bestDraw_0 rfl (lv_at hl 0 rfl) ?_
  refine q_get hC hW kX11_12 0 (ap_g1 (ap_g1 rfl)) (v := .ref (ad 0)) rfl dX11_bestDraw_1 ?_
  refine lv_iload_n hx hb dX11_bestDraw_4 rfl (lv_at hl 1 rfl) ?_
  refine q_VI hC hW (CtI.lift (c_X3_hasSpan l D cc ad S x) ([(h, .inr (11, [.ref (ad 0), .ref (a2 0)]))]) (LW cc a2 S2) rfl rfl) mX11_41 (1 + 0) (ap_g1 (ap_g2 rfl (Lg0 cc ad S))) rfl (by decide) rfl hl.1 rfl (Nat.le_of_ble_eq_true rfl) (by decide) dX11_bestDraw_5 (fun H locs hW => ?_)
  refine q_ri (v := nI 0) hno ?_
  refine q_if_ne_n (tgt := 14) hx hb (a := 0) rfl (by omega) dX11_bestDraw_8 (by decide) (fun c_8 => by exfalso; omega) (fun c_8 => ?_)
  refine q_ldc hC nX11_45 dX11_bestDraw_11 ?_
  exact hend _ _ _ _ _ _ (by unfold sX11_bestDraw_no; rfl) rfl hW dX11_bestDraw_13
