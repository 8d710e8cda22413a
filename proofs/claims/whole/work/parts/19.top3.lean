theorem inv_X3_copyFrom (So S : St) (hJ : Inv So) (hI : Inv S) : Inv (sX3_copyFrom_S So S) := by
  have key : ∀ k : Nat, (LX3_copyFrom_104_S So S k).1 0 0 = nI (cN So) ∧ (LX3_copyFrom_104_S So S k).1 0 13 = So.1 0 13 ∧ (LX3_copyFrom_104_S So S k).1 0 16 = nI (cM So) ∧ (LX3_copyFrom_104_S So S k).1 0 17 = S.1 0 17 ∧ (LX3_copyFrom_104_S So S k).1 0 18 = S.1 0 18 := by
    intro k
    induction k with
    | zero => exact ⟨rfl, rfl, rfl, rfl, rfl⟩
    | succ k ih => exact ih
  obtain ⟨h1, h2, h3, h4, h5⟩ := key (cN So)
  obtain ⟨⟨a1, b1, b2⟩, ⟨a2, b3⟩, ⟨a3, b4⟩, -, -⟩ := hJ
  obtain ⟨-, -, -, ⟨a4, b5⟩, ⟨a5, b6⟩⟩ := hI
  exact Inv.of h1 (h2.trans a2) h3 (h4.trans a4) (h5.trans a5) ⟨⟨b1, b2⟩, b3, b4, b5, b6⟩
def LX11_forecast_75_S (S S2 : St) (j : Nat) (t : Nat) : Nat → St
  | 0 => (sX3_copyFrom_S S S2)
  | k + 1 => (sX3_tick_S (LX11_forecast_75_S S S2 j t k))
def LX11_forecast_75_3 (S S2 : St) (j : Nat) (t : Nat) : Nat → Int64
  | 0 => 0
  | k + 1 => (sJ9_max_f86c9 (LX11_forecast_75_3 S S2 j t k) (sX8_tensionAt (sX3_tick_S (LX11_forecast_75_S S S2 j t k)) j ((sX3_tick_S (LX11_forecast_75_S S S2 j t k)).1 0 4)))
theorem invL_forecast (S S2 : St) (j t k : Nat) (hI : Inv S) (hJ : Inv S2) : Inv (LX11_forecast_75_S S S2 j t k) := by
  induction k with
  | zero => exact inv_X3_copyFrom _ _ hI hJ
  | succ k ih => exact inv_X3_tick _ ih
def sX11_forecast (S S2 : St) (j : Nat) (t : Nat) : Int64 := (if (S.1 0 2) = 0 then (LX11_forecast_75_3 S S2 j t t) else (sX8_tensionAt S j (S.1 0 4)))
def sX11_forecast_S (S S2 : St) (j : Nat) (t : Nat) : St := (if (S.1 0 2) = 0 then (LX11_forecast_75_S S S2 j t t) else S2)
set_option maxHeartbeats 4000000 in
set_option maxRecDepth 100000 in
theorem c_X11_forecast (l : Launch) (D : va_G) (cc : Nat → ClassId) (h : Nat) (ad a2 : Nat → Nat) (S S2 : St) (j : Nat) (t : Nat) (hI : Inv S) (hJ : Inv S2) (hj : j < cN S) (ht : t ≤ 300) (hw1 : sX11_isWithin (nI t) 1 300 = 1) : CtL l D cc yX11_forecast cX11_forecast 6 6 [.ref h, .int (nI j), .int (nI t)] (CW cc h ad a2 S S2) (sX11_forecast S S2 j t) (CW cc h ad a2 S (sX11_forecast_S S S2 j t)) := by
  refine CtL.of (plainFor_of_name (by decide +kernel)) (Nat.le_of_ble_eq_true rfl) ?_
  intro p e s m args below meth c A Q hC hW hend ls hl
  obtain ⟨⟨hx, hb, hml, hown, hts⟩, hNW⟩ := id hC
  unfold CW at hW hend
  have hl : lv_has ls 6 [(0, .ref h), (1, .int (nI j)), (2, .int (nI t))] := hl
  obtain ⟨⟨-, hb1_hI, hb2_hI⟩, ⟨-, hq_hI⟩, ⟨-, hm_hI⟩, ⟨-, ho_hI⟩, ⟨-, hc_hI⟩⟩ := id hI
  obtain ⟨⟨-, hb1_hJ, hb2_hJ⟩, ⟨-, hq_hJ⟩, ⟨-, hm_hJ⟩, ⟨-, ho_hJ⟩, ⟨-, hc_hJ⟩⟩ := id hJ
  refine lv_aload_n hx hb dX11_forecast_0 rfl (lv_at hl 0 rfl) ?_
  refine q_get hC hW kX11_12 0 (ap_g1 (ap_g1 rfl)) (v := .ref (ad 0)) rfl dX11_forecast_1 ?_
  refine lv_iload_n hx hb dX11_forecast_4 rfl (lv_at hl 1 rfl) ?_
  refine q_VI hC hW (CtI.lift (c_X3_hasSpan l D cc ad S (nI j)) ([(h, .inr (11, [.ref (ad 0), .ref (a2 0)]))]) (LW cc a2 S2) rfl rfl) mX11_41 (1 + 0) (ap_g1 (ap_g2 rfl (Lg0 cc ad S))) rfl (by decide) rfl hl.1 rfl (Nat.le_of_ble_eq_true rfl) (by decide) dX11_forecast_5 (fun H locs hW => ?_)
  refine q_ri (v := nI 1) (hasSpan_1 S j hI hj) ?_
  refine q_if_eq_n (tgt := 22) hx hb (a := 1) rfl (by omega) dX11_forecast_8 (by decide) (fun c_8 => by exfalso; omega) (fun c_8 => ?_)
  refine lv_iload_n hx hb dX11_forecast_11 rfl (lv_at hl 2 rfl) ?_
  refine lv_iconst (v := 1) hx hb dX11_forecast_12 (by decide) ?_
  refine lv_sipush (v := 300) hx hb dX11_forecast_13 (by decide) ?_
  refine q_SI hC hW (c_X11_isWithin l D cc _ (nI t) 1 300) mX11_23 (by decide) rfl hl.1 rfl (Nat.le_of_ble_eq_true rfl) (by decide) dX11_forecast_16 (fun H locs hW => ?_)
  refine q_ri (v := nI 1) hw1 ?_
  refine q_if_ne_n (tgt := 26) hx hb (a := 1) rfl (by omega) dX11_forecast_19 (by decide) (fun c_19 => ?_) (fun c_19 => by exfalso; omega)
  refine lv_aload_n hx hb dX11_forecast_26 rfl (lv_at hl 0 rfl) ?_
  refine q_get hC hW kX11_12 0 (ap_g1 (ap_g1 rfl)) (v := .ref (ad 0)) rfl dX11_forecast_27 ?_
  refine q_get hC hW kX11_134 (1 + 0) (ap_g1 (ap_g2 rfl (Lg0 cc ad S))) (v := .int (S.1 0 2)) rfl dX11_forecast_30 ?_
  refine lv_if_eq (tgt := 59) hx hb dX11_forecast_33 (by decide) (fun c_33 => ?_) (fun c_33 => ?_)
  · skip
    refine lv_aload_n hx hb dX11_forecast_59 rfl (lv_at hl 0 rfl) ?_
    refine q_get hC hW kX11_18 0 (ap_g1 (ap_g1 rfl)) (v := .ref (a2 0)) rfl dX11_forecast_60 ?_
    refine lv_aload_n hx hb dX11_forecast_63 rfl (lv_at hl 0 rfl) ?_
    refine q_get hC hW kX11_12 0 (ap_g1 (ap_g1 rfl)) (v := .ref (ad 0)) rfl dX11_forecast_64 ?_
    refine q_VV hC hW (CtV.lift (c_X3_copyFrom l D cc ad a2 S S2 hI) ([(h, .inr (11, [.ref (ad 0), .ref (a2 0)]))]) [] (by rw [List.append_nil, List.append_assoc]) (wx2 := ([(h, .inr (11, [.ref (ad 0), .ref (a2 0)]))] ++ LW cc ad S ++ LW cc a2 (sX3_copyFrom_S S S2))) (by rw [List.append_nil, List.append_assoc])) mX11_262 (41 + 0) (ap_g2 (OL_len _ _ _ _) (Lg0 cc a2 S2)) rfl (by decide) rfl hl.1 rfl (Nat.le_of_ble_eq_true rfl) (by decide) dX11_forecast_67 (fun H locs hW => ?_)
    refine lv_lconst (v := 0) hx hb dX11_forecast_70 rfl ?_
    refine lv_lstore_n (lv' := [(3, .long 0), (0, .ref h), (1, .int (nI j)), (2, .int (nI t))]) hx hb dX11_forecast_71 rfl hl (by decide) rfl (fun ls hl => ?_)
    refine lv_iconst (v := 0) hx hb dX11_forecast_72 (by decide) ?_
    refine lv_istore (lv' := [(5, .int 0), (3, .long 0), (0, .ref h), (1, .int (nI j)), (2, .int (nI t))]) hx hb dX11_forecast_73 hl (by decide) rfl (fun ls hl => ?_)
    have loop1 : ∀ (rn k : Nat), k + rn = t → ∀ (H : Heap) (locs : List Loc) (ls : Array Slot), Wd D cc ([(h, .inr (11, [.ref (ad 0), .ref (a2 0)]))] ++ LW cc ad S ++ LW cc a2 (LX11_forecast_75_S S S2 j t k)) A s.heap H locs s → lv_has ls 6 [(0, .ref h), (1, .int (nI j)), (2, .int (nI t)), (3, .long (LX11_forecast_75_3 S S2 j t k)), (5, .int (nI k))] → W p l e (rmD 6) s m args below meth c H locs 0 0 Q (F0 m 75 ls []) := by
      intro rn
      induction rn with
      | zero =>
        intro k hk H locs ls hW hl
        obtain rfl : t = k := by omega
        refine lv_iload hx hb dX11_forecast_75 (lv_at hl 4 rfl) ?_
        refine lv_iload_n hx hb dX11_forecast_77 rfl (lv_at hl 2 rfl) ?_
        refine q_icmp_ge_n (tgt := 121) hx hb (a := t) (b := t) rfl rfl (by omega) (by omega) dX11_forecast_78 (by decide) (fun c_78 => ?_) (fun c_78 => by exfalso; omega)
        refine lv_lload_n hx hb dX11_forecast_121 rfl (lv_at hl 3 rfl) ?_
        exact hend _ _ _ _ _ _ (by simp only [sX11_forecast, if_pos c_33]) (by simp only [sX11_forecast_S, if_pos c_33]) hW dX11_forecast_122
      | succ rn ih =>
        intro k hk H locs ls hW hl
        have hkN : k < t := by omega
        have hI_1 : Inv (LX11_forecast_75_S S S2 j t k) := invL_forecast S S2 j t k hI hJ
        obtain ⟨⟨-, -, -⟩, ⟨-, hq_hI_1⟩, ⟨-, hm_hI_1⟩, ⟨-, ho_hI_1⟩, ⟨-, hc_hI_1⟩⟩ := id hI_1
        refine lv_iload hx hb dX11_forecast_75 (lv_at hl 4 rfl) ?_
        refine lv_iload_n hx hb dX11_forecast_77 rfl (lv_at hl 2 rfl) ?_
        refine q_icmp_ge_n (tgt := 121) hx hb (a := k) (b := t) rfl rfl (by omega) (by omega) dX11_forecast_78 (by decide) (fun c_78 => by exfalso; omega) (fun c_78 => ?_)
        refine lv_aload_n hx hb dX11_forecast_81 rfl (lv_at hl 0 rfl) ?_
        refine q_get hC hW kX11_18 0 (ap_g1 (ap_g1 rfl)) (v := .ref (a2 0)) rfl dX11_forecast_82 ?_
        refine q_VV hC hW (CtV.lift (c_X3_tick l D cc a2 (LX11_forecast_75_S S S2 j t k) hI_1) ([(h, .inr (11, [.ref (ad 0), .ref (a2 0)]))] ++ LW cc ad S) [] (List.append_nil _).symm (List.append_nil _).symm) mX11_131 (41 + 0) (ap_g2 (OL_len _ _ _ _) (Lg0 cc a2 (LX11_forecast_75_S S S2 j t k))) rfl (by decide) rfl hl.1 rfl (Nat.le_of_ble_eq_true rfl) (by decide) dX11_forecast_85 (fun H locs hW => ?_)
        have hI_2 : Inv (sX3_tick_S (LX11_forecast_75_S S S2 j t k)) := inv_X3_tick (LX11_forecast_75_S S S2 j t k) hI_1
        obtain ⟨⟨-, -, -⟩, ⟨-, hq_hI_2⟩, ⟨-, hm_hI_2⟩, ⟨-, ho_hI_2⟩, ⟨-, hc_hI_2⟩⟩ := id hI_2
        refine lv_lload_n hx hb dX11_forecast_88 rfl (lv_at hl 3 rfl) ?_
        refine lv_aload_n hx hb dX11_forecast_89 rfl (lv_at hl 0 rfl) ?_
        refine q_get hC hW kX11_18 0 (ap_g1 (ap_g1 rfl)) (v := .ref (a2 0)) rfl dX11_forecast_90 ?_
        refine q_get hC hW kX11_47 (41 + 0) (ap_g2 (OL_len _ _ _ _) (Lg0 cc a2 (sX3_tick_S (LX11_forecast_75_S S S2 j t k)))) (v := .ref (a2 12)) rfl dX11_forecast_93 ?_
        refine lv_iload_n hx hb dX11_forecast_96 rfl (lv_at hl 1 rfl) ?_
        refine q_aald hC hW (41 + 12) 3 (ap_g2 (OL_len _ _ _ _) (Lg12 cc a2 (sX3_tick_S (LX11_forecast_75_S S S2 j t k)))) rfl (v := a2 (j + 15)) j rfl (by omega) (by decide) rfl dX11_forecast_97 ?_
        refine lv_aload_n hx hb dX11_forecast_98 rfl (lv_at hl 0 rfl) ?_
        refine q_get hC hW kX11_18 0 (ap_g1 (ap_g1 rfl)) (v := .ref (a2 0)) rfl dX11_forecast_99 ?_
        refine q_get hC hW kX11_74 (41 + 0) (ap_g2 (OL_len _ _ _ _) (Lg0 cc a2 (sX3_tick_S (LX11_forecast_75_S S S2 j t k)))) (v := .ref (a2 1)) rfl dX11_forecast_102 ?_
        refine q_get hC hW kX11_173 (41 + 1) (ap_g2 (OL_len _ _ _ _) (Lg1 cc a2 (sX3_tick_S (LX11_forecast_75_S S S2 j t k)))) (v := .int ((sX3_tick_S (LX11_forecast_75_S S S2 j t k)).1 0 4)) rfl dX11_forecast_105 ?_
        refine q_VL hC hW (CtL.lift (c_X8_tensionAt l D cc a2 (sX3_tick_S (LX11_forecast_75_S S S2 j t k)) j ((sX3_tick_S (LX11_forecast_75_S S S2 j t k)).1 0 4) (by omega)) ([(h, .inr (11, [.ref (ad 0), .ref (a2 0)]))] ++ LW cc ad S) [] (List.append_nil _).symm (List.append_nil _).symm) mX11_176 (41 + (j + 15)) (ap_g2 (OL_len _ _ _ _) (Lg_f8 cc a2 (sX3_tick_S (LX11_forecast_75_S S S2 j t k)) j (by omega))) rfl (by decide) rfl hl.1 rfl (Nat.le_of_ble_eq_true rfl) (by decide) dX11_forecast_108 (fun H locs hW => ?_)
        refine q_SL hC hW (c_J9_max_f86c9 l D cc _ (LX11_forecast_75_3 S S2 j t k) (sX8_tensionAt (sX3_tick_S (LX11_forecast_75_S S S2 j t k)) j ((sX3_tick_S (LX11_forecast_75_S S S2 j t k)).1 0 4))) mX11_266 (by decide) rfl hl.1 rfl (Nat.le_of_ble_eq_true rfl) (by decide) dX11_forecast_111 (fun H locs hW => ?_)
        refine lv_lstore_n (lv' := [(3, .long (sJ9_max_f86c9 (LX11_forecast_75_3 S S2 j t k) (sX8_tensionAt (sX3_tick_S (LX11_forecast_75_S S S2 j t k)) j ((sX3_tick_S (LX11_forecast_75_S S S2 j t k)).1 0 4)))), (0, .ref h), (1, .int (nI j)), (2, .int (nI t)), (5, .int (nI k))]) hx hb dX11_forecast_114 rfl hl (by decide) rfl (fun ls hl => ?_)
        refine lv_iinc (v := (nI (k + 1))) (lv' := [(5, .int (nI (k + 1))), (3, .long (sJ9_max_f86c9 (LX11_forecast_75_3 S S2 j t k) (sX8_tensionAt (sX3_tick_S (LX11_forecast_75_S S S2 j t k)) j ((sX3_tick_S (LX11_forecast_75_S S S2 j t k)).1 0 4)))), (0, .ref h), (1, .int (nI j)), (2, .int (nI t))]) hx hb dX11_forecast_115 hl (k := 4) rfl (nq_inc k 1) (by decide) rfl (fun ls hl => ?_)
        refine lv_goto (tgt := 75) hx hb dX11_forecast_118 (by decide) ?_
        exact ih (k + 1) (by omega) _ _ _ (by simp only [LX11_forecast_75_S, LX11_forecast_75_3, if_pos c_33]; exact hW) (lv_sub hl [2, 3, 4, 1, 0] (by simp only [LX11_forecast_75_S, LX11_forecast_75_3, if_pos c_33]; rfl))
    exact loop1 t 0 (by omega) _ _ _ hW (lv_sub hl [2, 3, 4, 1, 0] rfl)
  · skip
    refine lv_aload_n hx hb dX11_forecast_36 rfl (lv_at hl 0 rfl) ?_
    refine q_get hC hW kX11_12 0 (ap_g1 (ap_g1 rfl)) (v := .ref (ad 0)) rfl dX11_forecast_37 ?_
    refine q_get hC hW kX11_47 (1 + 0) (ap_g1 (ap_g2 rfl (Lg0 cc ad S))) (v := .ref (ad 12)) rfl dX11_forecast_40 ?_
    refine lv_iload_n hx hb dX11_forecast_43 rfl (lv_at hl 1 rfl) ?_
    refine q_aald hC hW (1 + 12) 3 (ap_g1 (ap_g2 rfl (Lg12 cc ad S))) rfl (v := ad (j + 15)) j rfl (by omega) (by decide) rfl dX11_forecast_44 ?_
    refine lv_aload_n hx hb dX11_forecast_45 rfl (lv_at hl 0 rfl) ?_
    refine q_get hC hW kX11_12 0 (ap_g1 (ap_g1 rfl)) (v := .ref (ad 0)) rfl dX11_forecast_46 ?_
    refine q_get hC hW kX11_74 (1 + 0) (ap_g1 (ap_g2 rfl (Lg0 cc ad S))) (v := .ref (ad 1)) rfl dX11_forecast_49 ?_
    refine q_get hC hW kX11_173 (1 + 1) (ap_g1 (ap_g2 rfl (Lg1 cc ad S))) (v := .int (S.1 0 4)) rfl dX11_forecast_52 ?_
    refine q_VL hC hW (CtL.lift (c_X8_tensionAt l D cc ad S j (S.1 0 4) (by omega)) ([(h, .inr (11, [.ref (ad 0), .ref (a2 0)]))]) (LW cc a2 S2) rfl rfl) mX11_176 (1 + (j + 15)) (ap_g1 (ap_g2 rfl (Lg_f8 cc ad S j (by omega)))) rfl (by decide) rfl hl.1 rfl (Nat.le_of_ble_eq_true rfl) (by decide) dX11_forecast_55 (fun H locs hW => ?_)
    exact hend _ _ _ _ _ _ (by simp only [sX11_forecast, if_neg c_33]) (by simp only [sX11_forecast_S, if_neg c_33]) hW dX11_forecast_58
def sX11_forecast_no (S S2 : St) (x : Int32) (y : Int32) : Int64 := (-9223372036854775808)
set_option maxHeartbeats 4000000 in
set_option maxRecDepth 100000 in
theorem c_X11_forecast_no (l : Launch) (D : va_G) (cc : Nat → ClassId) (h : Nat) (ad a2 : Nat → Nat) (S S2 : St) (x : Int32) (y : Int32) (hno : sX3_hasSpan S x = 0 ∨ sX11_isWithin y 1 300 = 0) : CtL l D cc yX11_forecast cX11_forecast 6 6 [.ref h, .int x, .int y] (CW cc h ad a2 S S2) (sX11_forecast_no S S2 x y) (CW cc h ad a2 S S2) := by
  refine CtL.of (plainFor_of_name (by decide +kernel)) (Nat.le_of_ble_eq_true rfl) ?_
  intro p e s m args below meth c A Q hC hW hend ls hl
  obtain ⟨⟨hx, hb, hml, hown, hts⟩, hNW⟩ := id hC
  unfold CW at hW hend
  have hl : lv_has ls 6 [(0, .ref h), (1, .int x), (2, .int y)] := hl
  refine lv_aload_n hx hb dX11_forecast_0 rfl (lv_at hl 0 rfl) ?_
  refine q_get hC hW kX11_12 0 (ap_g1 (ap_g1 rfl)) (v := .ref (ad 0)) rfl dX11_forecast_1 ?_
  refine lv_iload_n hx hb dX11_forecast_4 rfl (lv_at hl 1 rfl) ?_
  refine q_VI hC hW (CtI.lift (c_X3_hasSpan l D cc ad S x) ([(h, .inr (11, [.ref (ad 0), .ref (a2 0)]))]) (LW cc a2 S2) rfl rfl) mX11_41 (1 + 0) (ap_g1 (ap_g2 rfl (Lg0 cc ad S))) rfl (by decide) rfl hl.1 rfl (Nat.le_of_ble_eq_true rfl) (by decide) dX11_forecast_5 (fun H locs hW => ?_)
  refine lv_if_eq (tgt := 22) hx hb dX11_forecast_8 (by decide) (fun c_8 => ?_) (fun c_8 => ?_)
  · skip
    refine q_ldc2 hC nX11_171 dX11_forecast_22 ?_
    exact hend _ _ _ _ _ _ (by simp only [sX11_forecast_no, if_pos c_8]) rfl hW dX11_forecast_25
  · skip
    refine lv_iload_n hx hb dX11_forecast_11 rfl (lv_at hl 2 rfl) ?_
    refine lv_iconst (v := 1) hx hb dX11_forecast_12 (by decide) ?_
    refine lv_sipush (v := 300) hx hb dX11_forecast_13 (by decide) ?_
    refine q_SI hC hW (c_X11_isWithin l D cc _ y 1 300) mX11_23 (by decide) rfl hl.1 rfl (Nat.le_of_ble_eq_true rfl) (by decide) dX11_forecast_16 (fun H locs hW => ?_)
    refine q_ri (v := nI 0) (hno.resolve_left c_8) ?_
    refine q_if_ne_n (tgt := 26) hx hb (a := 0) rfl (by omega) dX11_forecast_19 (by decide) (fun c_19 => by exfalso; omega) (fun c_19 => ?_)
    refine q_ldc2 hC nX11_171 dX11_forecast_22 ?_
    exact hend _ _ _ _ _ _ (by simp only [sX11_forecast_no, if_neg c_8]) rfl hW dX11_forecast_25
def sX11_outlook_no (S S2 : St) (x : Int32) : Int32 := (-1000002)
set_option maxHeartbeats 4000000 in
set_option maxRecDepth 100000 in
theorem c_X11_outlook_no (l : Launch) (D : va_G) (cc : Nat → ClassId) (h : Nat) (ad a2 : Nat → Nat) (S S2 : St) (x : Int32) (hno : sX11_isWithin x 1 300 = 0) : CtI l D cc yX11_outlook cX11_outlook 3 .int 6 [.ref h, .int x] (CW cc h ad a2 S S2) (sX11_outlook_no S S2 x) (CW cc h ad a2 S S2) := by
  refine CtI.of (plainFor_of_name (by decide +kernel)) rfl (Nat.le_of_ble_eq_true rfl) ?_
  intro p e s m args below meth c A Q hC hW hend ls hl
  obtain ⟨⟨hx, hb, hml, hown, hts⟩, hNW⟩ := id hC
  unfold CW at hW hend
  have hl : lv_has ls 3 [(0, .ref h), (1, .int x)] := hl
  refine lv_iload_n hx hb dX11_outlook_0 rfl (lv_at hl 1 rfl) ?_
  refine lv_iconst (v := 1) hx hb dX11_outlook_1 (by decide) ?_
  refine lv_sipush (v := 300) hx hb dX11_outlook_2 (by decide) ?_
  refine q_SI hC hW (c_X11_isWithin l D cc _ x 1 300) mX11_23 (by decide) rfl hl.1 rfl (Nat.le_of_ble_eq_true rfl) (by decide) dX11_outlook_5 (fun H locs hW => ?_)
  refine q_ri (v := nI 0) hno ?_
  refine q_if_ne_n (tgt := 14) hx hb (a := 0) rfl (by omega) dX11_outlook_8 (by decide) (fun c_8 => by exfalso; omega) (fun c_8 => ?_)
  refine q_ldc hC nX11_27 dX11_outlook_11 ?_
  exact hend _ _ _ _ _ _ (by unfold sX11_outlook_no; rfl) rfl hW dX11_outlook_13
def xOutR (f : Nat → St) : Nat → Nat → Int32
  | 0, _ => 0
  | rn + 1, k => if (f (k + 1)).1 0 2 = 0 then xOutR f rn (k + 1) else nI (10 * (k + 1)) + (f (k + 1)).1 0 2
def xOutS (f : Nat → St) : Nat → Nat → St
  | 0, k => f k
  | rn + 1, k => if (f (k + 1)).1 0 2 = 0 then xOutS f rn (k + 1) else f (k + 1)
def LX11_outlook_45_S (S S2 : St) (t : Nat) : Nat → St
  | 0 => (sX3_copyFrom_S S S2)
  | k + 1 => (sX3_tick_S (LX11_outlook_45_S S S2 t k))
theorem invL_outlook (S S2 : St) (t k : Nat) (hI : Inv S) (hJ : Inv S2) : Inv (LX11_outlook_45_S S S2 t k) := by
  induction k with
  | zero => exact inv_X3_copyFrom _ _ hI hJ
  | succ k ih => exact inv_X3_tick _ ih
def sX11_outlook (S S2 : St) (t : Nat) : Int32 := (if (S.1 0 2) = 0 then xOutR (LX11_outlook_45_S S S2 t) t 0 else S.1 0 2)
def sX11_outlook_S (S S2 : St) (t : Nat) : St := (if (S.1 0 2) = 0 then xOutS (LX11_outlook_45_S S S2 t) t 0 else S2)
set_option maxHeartbeats 4000000 in
set_option maxRecDepth 100000 in
theorem c_X11_outlook (l : Launch) (D : va_G) (cc : Nat → ClassId) (h : Nat) (ad a2 : Nat → Nat) (S S2 : St) (t : Nat) (hI : Inv S) (hJ : Inv S2) (ht : t ≤ 300) (hw1 : sX11_isWithin (nI t) 1 300 = 1) : CtI l D cc yX11_outlook cX11_outlook 3 .int 6 [.ref h, .int (nI t)] (CW cc h ad a2 S S2) (sX11_outlook S S2 t) (CW cc h ad a2 S (sX11_outlook_S S S2 t)) := by
  refine CtI.of (plainFor_of_name (by decide +kernel)) rfl (Nat.le_of_ble_eq_true rfl) ?_
  intro p e s m args below meth c A Q hC hW hend ls hl
  obtain ⟨⟨hx, hb, hml, hown, hts⟩, hNW⟩ := id hC
  unfold CW at hW hend
  have hl : lv_has ls 3 [(0, .ref h), (1, .int (nI t))] := hl
  obtain ⟨⟨-, hb1_hI, hb2_hI⟩, ⟨-, hq_hI⟩, ⟨-, hm_hI⟩, ⟨-, ho_hI⟩, ⟨-, hc_hI⟩⟩ := id hI
  obtain ⟨⟨-, hb1_hJ, hb2_hJ⟩, ⟨-, hq_hJ⟩, ⟨-, hm_hJ⟩, ⟨-, ho_hJ⟩, ⟨-, hc_hJ⟩⟩ := id hJ
  refine lv_iload_n hx hb dX11_outlook_0 rfl (lv_at hl 1 rfl) ?_
  refine lv_iconst (v := 1) hx hb dX11_outlook_1 (by decide) ?_
  refine lv_sipush (v := 300) hx hb dX11_outlook_2 (by decide) ?_
  refine q_SI hC hW (c_X11_isWithin l D cc _ (nI t) 1 300) mX11_23 (by decide) rfl hl.1 rfl (Nat.le_of_ble_eq_true rfl) (by decide) dX11_outlook_5 (fun H locs hW => ?_)
  refine q_ri (v := nI 1) hw1 ?_
  refine q_if_ne_n (tgt := 14) hx hb (a := 1) rfl (by omega) dX11_outlook_8 (by decide) (fun c_8 => ?_) (fun c_8 => by exfalso; omega)
  refine lv_aload_n hx hb dX11_outlook_14 rfl (lv_at hl 0 rfl) ?_
  refine q_get hC hW kX11_12 0 (ap_g1 (ap_g1 rfl)) (v := .ref (ad 0)) rfl dX11_outlook_15 ?_
  refine q_get hC hW kX11_134 (1 + 0) (ap_g1 (ap_g2 rfl (Lg0 cc ad S))) (v := .int (S.1 0 2)) rfl dX11_outlook_18 ?_
  refine lv_if_eq (tgt := 32) hx hb dX11_outlook_21 (by decide) (fun c_21 => ?_) (fun c_21 => ?_)
  · skip
    refine lv_aload_n hx hb dX11_outlook_32 rfl (lv_at hl 0 rfl) ?_
    refine q_get hC hW kX11_18 0 (ap_g1 (ap_g1 rfl)) (v := .ref (a2 0)) rfl dX11_outlook_33 ?_
    refine lv_aload_n hx hb dX11_outlook_36 rfl (lv_at hl 0 rfl) ?_
    refine q_get hC hW kX11_12 0 (ap_g1 (ap_g1 rfl)) (v := .ref (ad 0)) rfl dX11_outlook_37 ?_
    refine q_VV hC hW (CtV.lift (c_X3_copyFrom l D cc ad a2 S S2 hI) ([(h, .inr (11, [.ref (ad 0), .ref (a2 0)]))]) [] (by rw [List.append_nil, List.append_assoc]) (wx2 := ([(h, .inr (11, [.ref (ad 0), .ref (a2 0)]))] ++ LW cc ad S ++ LW cc a2 (sX3_copyFrom_S S S2))) (by rw [List.append_nil, List.append_assoc])) mX11_262 (41 + 0) (ap_g2 (OL_len _ _ _ _) (Lg0 cc a2 S2)) rfl (by decide) rfl hl.1 rfl (Nat.le_of_ble_eq_true rfl) (by decide) dX11_outlook_40 (fun H locs hW => ?_)
    refine lv_iconst (v := 1) hx hb dX11_outlook_43 (by decide) ?_
    refine lv_istore_n (lv' := [(2, .int 1), (0, .ref h), (1, .int (nI t))]) hx hb dX11_outlook_44 rfl hl (by decide) rfl (fun ls hl => ?_)
    have loop1 : ∀ (rn k : Nat), k + rn = t → (xOutR (LX11_outlook_45_S S S2 t) rn k = xOutR (LX11_outlook_45_S S S2 t) t 0 ∧ xOutS (LX11_outlook_45_S S S2 t) rn k = xOutS (LX11_outlook_45_S S S2 t) t 0) → ∀ (H : Heap) (locs : List Loc) (ls : Array Slot), Wd D cc ([(h, .inr (11, [.ref (ad 0), .ref (a2 0)]))] ++ LW cc ad S ++ LW cc a2 (LX11_outlook_45_S S S2 t k)) A s.heap H locs s → lv_has ls 3 [(0, .ref h), (1, .int (nI t)), (2, .int (nI (k + 1)))] → W p l e (rmD 6) s m args below meth c H locs 0 0 Q (F0 m 45 ls []) := by
      intro rn
      induction rn with
      | zero =>
        intro k hk hinv H locs ls hW hl
        obtain rfl : t = k := by omega
        refine lv_iload_n hx hb dX11_outlook_45 rfl (lv_at hl 2 rfl) ?_
        refine lv_iload_n hx hb dX11_outlook_46 rfl (lv_at hl 1 rfl) ?_
        refine q_icmp_gt_n (tgt := 86) hx hb (a := (t + 1)) (b := t) rfl rfl (by omega) (by omega) dX11_outlook_47 (by decide) (fun c_47 => ?_) (fun c_47 => by exfalso; omega)
        refine lv_iconst (v := 0) hx hb dX11_outlook_86 (by decide) ?_
        exact hend _ _ _ _ _ _ (by first | (simp only [sX11_outlook, if_pos c_21]; done) | (unfold sX11_outlook; rw [if_pos c_21, ← hinv.1]; first | rfl | (simp only [xOutR]; exact (if_neg (by assumption)).symm))) (by first | (simp only [sX11_outlook_S, if_pos c_21]; done) | (unfold sX11_outlook_S; rw [if_pos c_21, ← hinv.2]; first | rfl | (simp only [xOutS]; rw [if_neg (by assumption)]; rfl))) hW dX11_outlook_87
      | succ rn ih =>
        intro k hk hinv H locs ls hW hl
        have hkN : k < t := by omega
        have hI_1 : Inv (LX11_outlook_45_S S S2 t k) := invL_outlook S S2 t k hI hJ
        obtain ⟨⟨-, -, -⟩, ⟨-, hq_hI_1⟩, ⟨-, hm_hI_1⟩, ⟨-, ho_hI_1⟩, ⟨-, hc_hI_1⟩⟩ := id hI_1
        refine lv_iload_n hx hb dX11_outlook_45 rfl (lv_at hl 2 rfl) ?_
        refine lv_iload_n hx hb dX11_outlook_46 rfl (lv_at hl 1 rfl) ?_
        refine q_icmp_gt_n (tgt := 86) hx hb (a := (k + 1)) (b := t) rfl rfl (by omega) (by omega) dX11_outlook_47 (by decide) (fun c_47 => by exfalso; omega) (fun c_47 => ?_)
        refine lv_aload_n hx hb dX11_outlook_50 rfl (lv_at hl 0 rfl) ?_
        refine q_get hC hW kX11_18 0 (ap_g1 (ap_g1 rfl)) (v := .ref (a2 0)) rfl dX11_outlook_51 ?_
        refine q_VV hC hW (CtV.lift (c_X3_tick l D cc a2 (LX11_outlook_45_S S S2 t k) hI_1) ([(h, .inr (11, [.ref (ad 0), .ref (a2 0)]))] ++ LW cc ad S) [] (List.append_nil _).symm (List.append_nil _).symm) mX11_131 (41 + 0) (ap_g2 (OL_len _ _ _ _) (Lg0 cc a2 (LX11_outlook_45_S S S2 t k))) rfl (by decide) rfl hl.1 rfl (Nat.le_of_ble_eq_true rfl) (by decide) dX11_outlook_54 (fun H locs hW => ?_)
        have hI_2 : Inv (sX3_tick_S (LX11_outlook_45_S S S2 t k)) := inv_X3_tick (LX11_outlook_45_S S S2 t k) hI_1
        obtain ⟨⟨-, -, -⟩, ⟨-, hq_hI_2⟩, ⟨-, hm_hI_2⟩, ⟨-, ho_hI_2⟩, ⟨-, hc_hI_2⟩⟩ := id hI_2
        refine lv_aload_n hx hb dX11_outlook_57 rfl (lv_at hl 0 rfl) ?_
        refine q_get hC hW kX11_18 0 (ap_g1 (ap_g1 rfl)) (v := .ref (a2 0)) rfl dX11_outlook_58 ?_
        refine q_get hC hW kX11_134 (41 + 0) (ap_g2 (OL_len _ _ _ _) (Lg0 cc a2 (sX3_tick_S (LX11_outlook_45_S S S2 t k)))) (v := .int ((sX3_tick_S (LX11_outlook_45_S S S2 t k)).1 0 2)) rfl dX11_outlook_61 ?_
        refine lv_if_eq (tgt := 80) hx hb dX11_outlook_64 (by decide) (fun c_64 => ?_) (fun c_64 => ?_)
        · skip
          refine lv_iinc (v := (nI (k + 2))) (lv' := [(2, .int (nI (k + 2))), (0, .ref h), (1, .int (nI t))]) hx hb dX11_outlook_80 hl (k := 2) rfl (nq_inc (k + 1) 1) (by decide) rfl (fun ls hl => ?_)
          refine lv_goto (tgt := 45) hx hb dX11_outlook_83 (by decide) ?_
          exact ih (k + 1) (by omega) ⟨(by rw [← hinv.1]; simp only [xOutR]; exact (if_pos (by assumption)).symm), (by rw [← hinv.2]; simp only [xOutS]; exact (if_pos (by assumption)).symm)⟩ _ _ _ (by simp only [LX11_outlook_45_S, if_pos c_21, if_pos c_64]; exact hW) (lv_sub hl [1, 2, 0] rfl)
        · skip
          refine lv_bipush (v := 10) hx hb dX11_outlook_67 (by decide) ?_
          refine lv_iload_n hx hb dX11_outlook_69 rfl (lv_at hl 2 rfl) ?_
          refine lv_imul hx hb dX11_outlook_70 ?_
          refine q_ri (v := nI (10 * (k + 1))) (nq_mul (a := 10) (b := (k + 1)) rfl rfl) ?_
          refine lv_aload_n hx hb dX11_outlook_71 rfl (lv_at hl 0 rfl) ?_
          refine q_get hC hW kX11_18 0 (ap_g1 (ap_g1 rfl)) (v := .ref (a2 0)) rfl dX11_outlook_72 ?_
          refine q_get hC hW kX11_134 (41 + 0) (ap_g2 (OL_len _ _ _ _) (Lg0 cc a2 (sX3_tick_S (LX11_outlook_45_S S S2 t k)))) (v := .int ((sX3_tick_S (LX11_outlook_45_S S S2 t k)).1 0 2)) rfl dX11_outlook_75 ?_
          refine lv_iadd hx hb dX11_outlook_78 ?_
          exact hend _ _ _ _ _ _ (by first | (simp only [sX11_outlook, if_pos c_21, if_neg c_64]; done) | (unfold sX11_outlook; rw [if_pos c_21, ← hinv.1]; first | rfl | (simp only [xOutR]; exact (if_neg (by assumption)).symm))) (by first | (simp only [sX11_outlook_S, if_pos c_21, if_neg c_64]; done) | (unfold sX11_outlook_S; rw [if_pos c_21, ← hinv.2]; first | rfl | (simp only [xOutS]; rw [if_neg (by assumption)]; rfl))) hW dX11_outlook_79
    exact loop1 t 0 (by omega) ⟨rfl, rfl⟩ _ _ _ hW (lv_sub hl [1, 2, 0] rfl)
  · skip
    refine lv_aload_n hx hb dX11_outlook_24 rfl (lv_at hl 0 rfl) ?_
    refine q_get hC hW kX11_12 0 (ap_g1 (ap_g1 rfl)) (v := .ref (ad 0)) rfl dX11_outlook_25 ?_
    refine q_get hC hW kX11_134 (1 + 0) (ap_g1 (ap_g2 rfl (Lg0 cc ad S))) (v := .int (S.1 0 2)) rfl dX11_outlook_28 ?_
    exact hend _ _ _ _ _ _ (by first | (simp only [sX11_outlook, if_neg c_21]; done) | (unfold sX11_outlook; rw [if_pos c_21, ← hinv.1]; first | rfl | (simp only [xOutR]; exact (if_neg (by assumption)).symm))) (by first | (simp only [sX11_outlook_S, if_neg c_21]; done) | (unfold sX11_outlook_S; rw [if_pos c_21, ← hinv.2]; first | rfl | (simp only [xOutS]; rw [if_neg (by assumption)]; rfl))) hW dX11_outlook_31
