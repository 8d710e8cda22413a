theorem inv_X12_putAside (S : St) (hI : InvM S) : InvM (sX12_putAside_S S) := by
  have k1 : ∀ k : Nat, (LX12_putAside_2_S S k).1 = S.1 ∧ (LX12_putAside_2_S S k).2 11 = S.2 11 := by
    intro k
    induction k with
    | zero => exact ⟨rfl, rfl⟩
    | succ k ih => exact ih
  have k2 : ∀ k : Nat, (LX12_putAside_28_S S k).1 = S.1 ∧ (LX12_putAside_28_S S k).2 11 = S.2 11 := by
    intro k
    induction k with
    | zero => exact k1 64
    | succ k ih => exact ih
  have k3 : ∀ k : Nat, (LX12_putAside_54_S S k).1 = S.1 ∧ (LX12_putAside_54_S S k).2 11 = S.2 11 := by
    intro k
    induction k with
    | zero => exact k2 90
    | succ k ih => exact ih
  have h := k3 512
  exact hI.keep (congrFun (congrFun h.1 0) 0) (congrFun h.2 52) (congrFun h.2 62) (congrFun h.2 63)
theorem I_X12_putAside (S : St) : (sX12_putAside_S S).1 = S.1 := by
  have k1 : ∀ k : Nat, (LX12_putAside_2_S S k).1 = S.1 := by
    intro k
    induction k with
    | zero => rfl
    | succ k ih => exact ih
  have k2 : ∀ k : Nat, (LX12_putAside_28_S S k).1 = S.1 := by
    intro k
    induction k with
    | zero => exact k1 64
    | succ k ih => exact ih
  have k3 : ∀ k : Nat, (LX12_putAside_54_S S k).1 = S.1 := by
    intro k
    induction k with
    | zero => exact k2 90
    | succ k ih => exact ih
  exact k3 512
theorem mat_X12_tick (S : St) (j : Nat) (hI : InvM S) (hj : j < 6) : (sX12_tick_S S).2 11 (8 * j) = (sX12_feed_S (mPre S)).2 11 (8 * j) := K66_tick S (cN S) 11 (8 * j) (by unfold okK; omega) hI
def sX12_forecast_no (S : St) (j : Nat) (y : Int32) : Int64 := sX12_lost
set_option maxHeartbeats 4000000 in
set_option maxRecDepth 100000 in
theorem c_X12_forecast_no (l : Launch) (D : va_G) (cc : Nat → ClassId) (ad : Nat → Nat) (S : St) (j : Nat) (y : Int32) (hno : sX12_noSpan S (nI j) = nI 0 ∧ sX12_in y.toInt64 1 300 = nI 0) : CtL l D cc yX12_forecast cX12_forecast 8 5 [.ref (ad 0), .int (nI j), .int y] (MW cc ad S) (sX12_forecast_no S j y) (MW cc ad S) := by
  refine CtL.of (plainFor_of_name (by decide +kernel)) (Nat.le_of_ble_eq_true rfl) ?_
  intro p e s m args below meth c A Q hC hW hend ls hl
  obtain ⟨⟨hx, hb, hml, hown, hts⟩, hNW⟩ := id hC
  have hl : lv_has ls 8 [(0, .ref (ad 0)), (1, .int (nI j)), (2, .int y)] := hl
  refine lv_aload_n hx hb dX12_forecast_0 rfl (lv_at hl 0 rfl) ?_
  refine lv_iload_n hx hb dX12_forecast_1 rfl (lv_at hl 1 rfl) ?_
  refine q_VI hC hW (c_X12_noSpan l D cc ad S (nI j)) mX12_135 0 (Mg0 cc ad S) rfl (by decide) rfl hl.1 rfl (Nat.le_of_ble_eq_true rfl) (by decide) dX12_forecast_2 (fun H locs hW => ?_)
  refine q_ri (v := nI 0) hno.1 ?_
  refine q_if_ne_n (tgt := 20) hx hb (a := 0) rfl (by omega) dX12_forecast_5 (by decide) (fun c_5 => by exfalso; omega) (fun c_5 => ?_)
  refine lv_iload_n hx hb dX12_forecast_8 rfl (lv_at hl 2 rfl) ?_
  refine lv_i2l hx hb dX12_forecast_9 rfl ?_
  refine lv_lconst (v := 1) hx hb dX12_forecast_10 rfl ?_
  refine q_ldc2 hC nX12_224 dX12_forecast_11 ?_
  refine q_SI hC hW (c_X12_in l D cc _ (y.toInt64) 1 300) mX12_118 (by decide) rfl hl.1 rfl (Nat.le_of_ble_eq_true rfl) (by decide) dX12_forecast_14 (fun H locs hW => ?_)
  refine q_ri (v := nI 0) hno.2 ?_
  refine q_if_ne_n (tgt := 24) hx hb (a := 0) rfl (by omega) dX12_forecast_17 (by decide) (fun c_17 => by exfalso; omega) (fun c_17 => ?_)
  refine q_SL hC hW (c_X12_lost l D cc _) mX12_232 (by decide) rfl hl.1 rfl (Nat.le_of_ble_eq_true rfl) (by decide) dX12_forecast_20 (fun H locs hW => ?_)
  exact hend _ _ _ _ _ _ (by unfold sX12_forecast_no; rfl) rfl hW dX12_forecast_23
def sX12_forecast_ns (S : St) (x : Int32) (y : Int32) : Int64 := sX12_lost
set_option maxHeartbeats 4000000 in
set_option maxRecDepth 100000 in
theorem c_X12_forecast_ns (l : Launch) (D : va_G) (cc : Nat → ClassId) (ad : Nat → Nat) (S : St) (x : Int32) (y : Int32) (hno : sX12_noSpan S x = 1) : CtL l D cc yX12_forecast cX12_forecast 8 5 [.ref (ad 0), .int x, .int y] (MW cc ad S) (sX12_forecast_ns S x y) (MW cc ad S) := by
  refine CtL.of (plainFor_of_name (by decide +kernel)) (Nat.le_of_ble_eq_true rfl) ?_
  intro p e s m args below meth c A Q hC hW hend ls hl
  obtain ⟨⟨hx, hb, hml, hown, hts⟩, hNW⟩ := id hC
  have hl : lv_has ls 8 [(0, .ref (ad 0)), (1, .int x), (2, .int y)] := hl
  refine lv_aload_n hx hb dX12_forecast_0 rfl (lv_at hl 0 rfl) ?_
  refine lv_iload_n hx hb dX12_forecast_1 rfl (lv_at hl 1 rfl) ?_
  refine q_VI hC hW (c_X12_noSpan l D cc ad S x) mX12_135 0 (Mg0 cc ad S) rfl (by decide) rfl hl.1 rfl (Nat.le_of_ble_eq_true rfl) (by decide) dX12_forecast_2 (fun H locs hW => ?_)
  refine q_ri (v := nI 1) hno ?_
  refine q_if_ne_n (tgt := 20) hx hb (a := 1) rfl (by omega) dX12_forecast_5 (by decide) (fun c_5 => ?_) (fun c_5 => by exfalso; omega)
  refine q_SL hC hW (c_X12_lost l D cc _) mX12_232 (by decide) rfl hl.1 rfl (Nat.le_of_ble_eq_true rfl) (by decide) dX12_forecast_20 (fun H locs hW => ?_)
  exact hend _ _ _ _ _ _ (by unfold sX12_forecast_ns; rfl) rfl hW dX12_forecast_23
def LX12_forecast_51_S (S : St) (j : Nat) (t : Nat) : Nat → St
  | 0 => (sX12_putAside_S S)
  | k + 1 => (if (LX12_forecast_51_S S j t k).2 11 49 = 0 then sX12_tick_S (LX12_forecast_51_S S j t k) else (LX12_forecast_51_S S j t k))
def LX12_forecast_51_3 (S : St) (j : Nat) (t : Nat) : Nat → Int64
  | 0 => 0
  | k + 1 => (if (LX12_forecast_51_S S j t k).2 11 49 = 0 then (if (sX12_tension (sX12_tick_S (LX12_forecast_51_S S j t k)) j) ≤ (LX12_forecast_51_3 S j t k) then (LX12_forecast_51_3 S j t k) else (sX12_tension (sX12_tick_S (LX12_forecast_51_S S j t k)) j)) else (LX12_forecast_51_3 S j t k))
theorem invL_forecast12 (S : St) (j t k : Nat) (hI : InvM S) : InvM (LX12_forecast_51_S S j t k) := by
  induction k with
  | zero => exact inv_X12_putAside S hI
  | succ k ih =>
    unfold LX12_forecast_51_S
    split
    · exact inv_X12_tick _ ih
    · exact ih
theorem n_forecast12 (S : St) (j t k : Nat) : cN (LX12_forecast_51_S S j t k) = cN S := by
  have h : (LX12_forecast_51_S S j t k).1 = S.1 := by
    induction k with
    | zero => exact I_X12_putAside S
    | succ k ih =>
      unfold LX12_forecast_51_S
      split
      · exact (I_X12_tick _).trans ih
      · exact ih
  unfold cN
  rw [h]
def sX12_forecast (S : St) (j : Nat) (t : Nat) : Int64 := (if S.2 11 49 = 0 then LX12_forecast_51_3 S j t t else sX12_tension S j)
def sX12_forecast_S (S : St) (j : Nat) (t : Nat) : St := (if S.2 11 49 = 0 then sX12_takeBack_S (LX12_forecast_51_S S j t t) else S)
set_option maxHeartbeats 4000000 in
set_option maxRecDepth 100000 in
theorem c_X12_forecast (l : Launch) (D : va_G) (cc : Nat → ClassId) (ad : Nat → Nat) (S : St) (j : Nat) (t : Nat) (hI : InvM S) (hj : j < cN S) (ht1 : 1 ≤ t) (ht : t ≤ 300) (hu : ¬ S.2 11 (8 * j) = 0) (hOK : ∀ k, k < t → (LX12_forecast_51_S S j t k).2 11 49 = 0 → OKT (LX12_forecast_51_S S j t k)) : CtL l D cc yX12_forecast cX12_forecast 8 5 [.ref (ad 0), .int (nI j), .int (nI t)] (MW cc ad S) (sX12_forecast S j t) (MW cc ad (sX12_forecast_S S j t)) := by
  refine CtL.of (plainFor_of_name (by decide +kernel)) (Nat.le_of_ble_eq_true rfl) ?_
  intro p e s m args below meth c A Q hC hW hend ls hl
  obtain ⟨⟨hx, hb, hml, hown, hts⟩, hNW⟩ := id hC
  have hl : lv_has ls 8 [(0, .ref (ad 0)), (1, .int (nI j)), (2, .int (nI t))] := hl
  obtain ⟨⟨-, hn1_hI, hn2_hI⟩, ⟨-, hq_hI⟩, -, ⟨-, hh_hI⟩, hs_hI⟩ := id hI
  refine lv_aload_n hx hb dX12_forecast_0 rfl (lv_at hl 0 rfl) ?_
  refine lv_iload_n hx hb dX12_forecast_1 rfl (lv_at hl 1 rfl) ?_
  refine q_VI hC hW (c_X12_noSpan l D cc ad S (nI j)) mX12_135 0 (Mg0 cc ad S) rfl (by decide) rfl hl.1 rfl (Nat.le_of_ble_eq_true rfl) (by decide) dX12_forecast_2 (fun H locs hW => ?_)
  refine q_ri (v := nI 0) (noSpan_0 S j hI hj) ?_
  refine q_if_ne_n (tgt := 20) hx hb (a := 0) rfl (by omega) dX12_forecast_5 (by decide) (fun c_5 => by exfalso; omega) (fun c_5 => ?_)
  refine lv_iload_n hx hb dX12_forecast_8 rfl (lv_at hl 2 rfl) ?_
  refine lv_i2l (v := lN t) hx hb dX12_forecast_9 (nI_l (by omega)) ?_
  refine lv_lconst (v := 1) hx hb dX12_forecast_10 rfl ?_
  refine q_ldc2 hC nX12_224 dX12_forecast_11 ?_
  refine q_SI hC hW (c_X12_in l D cc _ (lN t) 1 300) mX12_118 (by decide) rfl hl.1 rfl (Nat.le_of_ble_eq_true rfl) (by decide) dX12_forecast_14 (fun H locs hW => ?_)
  refine q_ri (v := nI 1) (inw ht1 ht) ?_
  refine q_if_ne_n (tgt := 24) hx hb (a := 1) rfl (by omega) dX12_forecast_17 (by decide) (fun c_17 => ?_) (fun c_17 => by exfalso; omega)
  refine lv_aload_n hx hb dX12_forecast_24 rfl (lv_at hl 0 rfl) ?_
  refine q_get hC hW kX12_41 0 (Mg0 cc ad S) (v := .ref (ad 11)) rfl dX12_forecast_25 ?_
  refine lv_bipush (v := 49) hx hb dX12_forecast_28 (by decide) ?_
  refine q_lald hC hW 11 (Mg11 cc ad S) (v := (S.2 11 49)) 49 rfl (by omega) (by decide) rfl dX12_forecast_30 ?_
  refine lv_lconst (v := 0) hx hb dX12_forecast_31 rfl ?_
  refine q_jeq (tgt := 42) hC dX12_forecast_32 dX12_forecast_33 (by decide) (fun c_32 => ?_) (fun c_32 => ?_)
  · skip
    refine lv_aload_n hx hb dX12_forecast_42 rfl (lv_at hl 0 rfl) ?_
    refine q_VV hC hW (c_X12_putAside l D cc ad S) mX12_243 0 (Mg0 cc ad S) rfl (by decide) rfl hl.1 rfl (Nat.le_of_ble_eq_true rfl) (by decide) dX12_forecast_43 (fun H locs hW => ?_)
    refine lv_lconst (v := 0) hx hb dX12_forecast_46 rfl ?_
    refine lv_lstore_n (lv' := [(3, .long 0), (0, .ref (ad 0)), (1, .int (nI j)), (2, .int (nI t))]) hx hb dX12_forecast_47 rfl hl (by decide) rfl (fun ls hl => ?_)
    refine lv_iconst (v := 0) hx hb dX12_forecast_48 (by decide) ?_
    refine lv_istore (lv' := [(5, .int 0), (3, .long 0), (0, .ref (ad 0)), (1, .int (nI j)), (2, .int (nI t))]) hx hb dX12_forecast_49 hl (by decide) rfl (fun ls hl => ?_)
    have loop1 : ∀ (rn k : Nat), k + rn = t → ∀ (H : Heap) (locs : List Loc) (ls : Array Slot), Wd D cc (MW cc ad (LX12_forecast_51_S S j t k)) A s.heap H locs s → lv_has ls 8 [(0, .ref (ad 0)), (1, .int (nI j)), (2, .int (nI t)), (3, .long (LX12_forecast_51_3 S j t k)), (5, .int (nI k))] → W p l e (rmD 5) s m args below meth c H locs 0 0 Q (F0 m 51 ls []) := by
      intro rn
      induction rn with
      | zero =>
        intro k hk H locs ls hW hl
        obtain rfl : t = k := by omega
        have hI_1 : InvM (LX12_forecast_51_S S j t t) := invL_forecast12 S j t t hI
        obtain ⟨⟨-, hn1_hI_1, hn2_hI_1⟩, ⟨-, hq_hI_1⟩, -, ⟨-, hh_hI_1⟩, hs_hI_1⟩ := id hI_1
        refine lv_iload hx hb dX12_forecast_51 (lv_at hl 4 rfl) ?_
        refine lv_iload_n hx hb dX12_forecast_53 rfl (lv_at hl 2 rfl) ?_
        refine q_icmp_ge_n (tgt := 100) hx hb (a := t) (b := t) rfl rfl (by omega) (by omega) dX12_forecast_54 (by decide) (fun c_54 => ?_) (fun c_54 => by exfalso; omega)
        refine lv_aload_n hx hb dX12_forecast_100 rfl (lv_at hl 0 rfl) ?_
        refine q_VV hC hW (c_X12_takeBack l D cc ad (LX12_forecast_51_S S j t t)) mX12_246 0 (Mg0 cc ad (LX12_forecast_51_S S j t t)) rfl (by decide) rfl hl.1 rfl (Nat.le_of_ble_eq_true rfl) (by decide) dX12_forecast_101 (fun H locs hW => ?_)
        refine lv_lload_n hx hb dX12_forecast_104 rfl (lv_at hl 3 rfl) ?_
        exact hend _ _ _ _ _ _ (by simp only [sX12_forecast, if_pos c_32]) (by simp only [sX12_forecast_S, if_pos c_32]) hW dX12_forecast_105
      | succ rn ih =>
        intro k hk H locs ls hW hl
        have hkN : k < t := by omega
        have hI_2 : InvM (LX12_forecast_51_S S j t k) := invL_forecast12 S j t k hI
        obtain ⟨⟨-, hn1_hI_2, hn2_hI_2⟩, ⟨-, hq_hI_2⟩, -, ⟨-, hh_hI_2⟩, hs_hI_2⟩ := id hI_2
        refine lv_iload hx hb dX12_forecast_51 (lv_at hl 4 rfl) ?_
        refine lv_iload_n hx hb dX12_forecast_53 rfl (lv_at hl 2 rfl) ?_
        refine q_icmp_ge_n (tgt := 100) hx hb (a := k) (b := t) rfl rfl (by omega) (by omega) dX12_forecast_54 (by decide) (fun c_54 => by exfalso; omega) (fun c_54 => ?_)
        refine lv_aload_n hx hb dX12_forecast_57 rfl (lv_at hl 0 rfl) ?_
        refine q_get hC hW kX12_41 0 (Mg0 cc ad (LX12_forecast_51_S S j t k)) (v := .ref (ad 11)) rfl dX12_forecast_58 ?_
        refine lv_bipush (v := 49) hx hb dX12_forecast_61 (by decide) ?_
        refine q_lald hC hW 11 (Mg11 cc ad (LX12_forecast_51_S S j t k)) (v := ((LX12_forecast_51_S S j t k).2 11 49)) 49 rfl (by omega) (by decide) rfl dX12_forecast_63 ?_
        refine lv_lconst (v := 0) hx hb dX12_forecast_64 rfl ?_
        refine q_jne (tgt := 100) hC dX12_forecast_65 dX12_forecast_66 (by decide) (fun c_65 => ?_) (fun c_65 => ?_)
        · skip
          have hst := stay (fun k => (LX12_forecast_51_S S j t k, LX12_forecast_51_3 S j t k)) (fun X => X.1.2 11 49 = 0) (fun i hi => by simp only [LX12_forecast_51_S, LX12_forecast_51_3]; rw [if_neg hi, if_neg hi]) k t (by omega) c_65
          have hs1 : LX12_forecast_51_S S j t t = LX12_forecast_51_S S j t k := congrArg Prod.fst hst
          have hs2 : LX12_forecast_51_3 S j t t = LX12_forecast_51_3 S j t k := congrArg Prod.snd hst
          rw [← hs1] at hW
          rw [← hs2] at hl
          have hI_3 : InvM (LX12_forecast_51_S S j t t) := invL_forecast12 S j t t hI
          obtain ⟨⟨-, hn1_hI_3, hn2_hI_3⟩, ⟨-, hq_hI_3⟩, -, ⟨-, hh_hI_3⟩, hs_hI_3⟩ := id hI_3
          refine lv_aload_n hx hb dX12_forecast_100 rfl (lv_at hl 0 rfl) ?_
          refine q_VV hC hW (c_X12_takeBack l D cc ad (LX12_forecast_51_S S j t t)) mX12_246 0 (Mg0 cc ad (LX12_forecast_51_S S j t t)) rfl (by decide) rfl hl.1 rfl (Nat.le_of_ble_eq_true rfl) (by decide) dX12_forecast_101 (fun H locs hW => ?_)
          refine lv_lload_n hx hb dX12_forecast_104 rfl (lv_at hl 3 rfl) ?_
          exact hend _ _ _ _ _ _ (by simp only [sX12_forecast, if_pos c_32, if_neg c_65]) (by simp only [sX12_forecast_S, if_pos c_32, if_neg c_65]) hW dX12_forecast_105
        · skip
          refine lv_aload_n hx hb dX12_forecast_69 rfl (lv_at hl 0 rfl) ?_
          refine q_VV hC hW (c_X12_tick l D cc ad (LX12_forecast_51_S S j t k) hI_2 (hOK k (by omega) c_65)) mX12_226 0 (Mg0 cc ad (LX12_forecast_51_S S j t k)) rfl (by decide) rfl hl.1 rfl (Nat.le_of_ble_eq_true rfl) (by decide) dX12_forecast_70 (fun H locs hW => ?_)
          have hI_4 : InvM (sX12_tick_S (LX12_forecast_51_S S j t k)) := inv_X12_tick (LX12_forecast_51_S S j t k) hI_2
          obtain ⟨⟨-, hn1_hI_4, hn2_hI_4⟩, ⟨-, hq_hI_4⟩, -, ⟨-, hh_hI_4⟩, hs_hI_4⟩ := id hI_4
          refine lv_aload_n hx hb dX12_forecast_73 rfl (lv_at hl 0 rfl) ?_
          refine lv_iload_n hx hb dX12_forecast_74 rfl (lv_at hl 1 rfl) ?_
          refine q_VL hC hW (c_X12_tension l D cc ad (sX12_tick_S (LX12_forecast_51_S S j t k)) j (by omega) (by rw [mat_X12_tick _ _ (invL_forecast12 S j t k hI) (by omega)]; exact (hOK k (by omega) c_65).2.2.1 j (by rw [n_forecast12]; omega))) mX12_186 0 (Mg0 cc ad (sX12_tick_S (LX12_forecast_51_S S j t k))) rfl (by decide) rfl hl.1 rfl (Nat.le_of_ble_eq_true rfl) (by decide) dX12_forecast_75 (fun H locs hW => ?_)
          refine lv_lstore (lv' := [(6, .long (sX12_tension (sX12_tick_S (LX12_forecast_51_S S j t k)) j)), (0, .ref (ad 0)), (1, .int (nI j)), (2, .int (nI t)), (3, .long (LX12_forecast_51_3 S j t k)), (5, .int (nI k))]) hx hb dX12_forecast_78 hl (by decide) rfl (fun ls hl => ?_)
          refine lv_lload hx hb dX12_forecast_80 (lv_at hl 0 rfl) ?_
          refine lv_lload_n hx hb dX12_forecast_82 rfl (lv_at hl 4 rfl) ?_
          refine q_jle (tgt := 92) hC dX12_forecast_83 dX12_forecast_84 (by decide) (fun c_83 => ?_) (fun c_83 => ?_)
          · skip
            refine lv_lload_n hx hb dX12_forecast_92 rfl (lv_at hl 4 rfl) ?_
            refine lv_lstore_n (lv' := [(3, .long (LX12_forecast_51_3 S j t k)), (6, .long (sX12_tension (sX12_tick_S (LX12_forecast_51_S S j t k)) j)), (0, .ref (ad 0)), (1, .int (nI j)), (2, .int (nI t)), (5, .int (nI k))]) hx hb dX12_forecast_93 rfl hl (by decide) rfl (fun ls hl => ?_)
            refine lv_iinc (v := (nI (k + 1))) (lv' := [(5, .int (nI (k + 1))), (3, .long (LX12_forecast_51_3 S j t k)), (6, .long (sX12_tension (sX12_tick_S (LX12_forecast_51_S S j t k)) j)), (0, .ref (ad 0)), (1, .int (nI j)), (2, .int (nI t))]) hx hb dX12_forecast_94 hl (k := 5) rfl (nq_inc k 1) (by decide) rfl (fun ls hl => ?_)
            refine lv_goto (tgt := 51) hx hb dX12_forecast_97 (by decide) ?_
            exact ih (k + 1) (by omega) _ _ _ (by simp only [LX12_forecast_51_S, LX12_forecast_51_3, if_pos c_32, if_pos c_65, if_pos c_83]; exact hW) (lv_sub hl [3, 4, 5, 1, 0] (by simp only [LX12_forecast_51_S, LX12_forecast_51_3, if_pos c_32, if_pos c_65, if_pos c_83]; rfl))
          · skip
            refine lv_lload hx hb dX12_forecast_87 (lv_at hl 0 rfl) ?_
            refine lv_goto (tgt := 93) hx hb dX12_forecast_89 (by decide) ?_
            refine lv_lstore_n (lv' := [(3, .long (sX12_tension (sX12_tick_S (LX12_forecast_51_S S j t k)) j)), (6, .long (sX12_tension (sX12_tick_S (LX12_forecast_51_S S j t k)) j)), (0, .ref (ad 0)), (1, .int (nI j)), (2, .int (nI t)), (5, .int (nI k))]) hx hb dX12_forecast_93 rfl hl (by decide) rfl (fun ls hl => ?_)
            refine lv_iinc (v := (nI (k + 1))) (lv' := [(5, .int (nI (k + 1))), (3, .long (sX12_tension (sX12_tick_S (LX12_forecast_51_S S j t k)) j)), (6, .long (sX12_tension (sX12_tick_S (LX12_forecast_51_S S j t k)) j)), (0, .ref (ad 0)), (1, .int (nI j)), (2, .int (nI t))]) hx hb dX12_forecast_94 hl (k := 5) rfl (nq_inc k 1) (by decide) rfl (fun ls hl => ?_)
            refine lv_goto (tgt := 51) hx hb dX12_forecast_97 (by decide) ?_
            exact ih (k + 1) (by omega) _ _ _ (by simp only [LX12_forecast_51_S, LX12_forecast_51_3, if_pos c_32, if_pos c_65, if_neg c_83]; exact hW) (lv_sub hl [3, 4, 5, 1, 0] (by simp only [LX12_forecast_51_S, LX12_forecast_51_3, if_pos c_32, if_pos c_65, if_neg c_83]; rfl))
    exact loop1 t 0 (by omega) _ _ _ hW (lv_sub hl [2, 3, 4, 1, 0] rfl)
  · skip
    refine lv_aload_n hx hb dX12_forecast_36 rfl (lv_at hl 0 rfl) ?_
    refine lv_iload_n hx hb dX12_forecast_37 rfl (lv_at hl 1 rfl) ?_
    refine q_VL hC hW (c_X12_tension l D cc ad S j (by omega) hu) mX12_186 0 (Mg0 cc ad S) rfl (by decide) rfl hl.1 rfl (Nat.le_of_ble_eq_true rfl) (by decide) dX12_forecast_38 (fun H locs hW => ?_)
    exact hend _ _ _ _ _ _ (by simp only [sX12_forecast, if_neg c_32]) (by simp only [sX12_forecast_S, if_neg c_32]) hW dX12_forecast_41
def sX12_outlook_no (S : St) (x : Int32) : Int32 := (-1000002)
set_option maxHeartbeats 4000000 in
set_option maxRecDepth 100000 in
theorem c_X12_outlook_no (l : Launch) (D : va_G) (cc : Nat → ClassId) (ad : Nat → Nat) (S : St) (x : Int32) (hno : sX12_in x.toInt64 1 300 = 0) : CtI l D cc yX12_outlook cX12_outlook 4 .int 5 [.ref (ad 0), .int x] (MW cc ad S) (sX12_outlook_no S x) (MW cc ad S) := by
  refine CtI.of (plainFor_of_name (by decide +kernel)) rfl (Nat.le_of_ble_eq_true rfl) ?_
  intro p e s m args below meth c A Q hC hW hend ls hl
  obtain ⟨⟨hx, hb, hml, hown, hts⟩, hNW⟩ := id hC
  have hl : lv_has ls 4 [(0, .ref (ad 0)), (1, .int x)] := hl
  refine lv_iload_n hx hb dX12_outlook_0 rfl (lv_at hl 1 rfl) ?_
  refine lv_i2l hx hb dX12_outlook_1 rfl ?_
  refine lv_lconst (v := 1) hx hb dX12_outlook_2 rfl ?_
  refine q_ldc2 hC nX12_224 dX12_outlook_3 ?_
  refine q_SI hC hW (c_X12_in l D cc _ (x.toInt64) 1 300) mX12_118 (by decide) rfl hl.1 rfl (Nat.le_of_ble_eq_true rfl) (by decide) dX12_outlook_6 (fun H locs hW => ?_)
  refine q_ri (v := nI 0) hno ?_
  refine q_if_ne_n (tgt := 15) hx hb (a := 0) rfl (by omega) dX12_outlook_9 (by decide) (fun c_9 => by exfalso; omega) (fun c_9 => ?_)
  refine q_ldc hC nX12_126 dX12_outlook_12 ?_
  exact hend _ _ _ _ _ _ (by unfold sX12_outlook_no; rfl) rfl hW dX12_outlook_14
def LX12_outlook_42_S (S : St) (t : Nat) : Nat → St
  | 0 => (sX12_putAside_S S)
  | k + 1 => (if (LX12_outlook_42_S S t k).2 11 49 = 0 then sX12_tick_S (LX12_outlook_42_S S t k) else (LX12_outlook_42_S S t k))
theorem invL_outlook12 (S : St) (t k : Nat) (hI : InvM S) : InvM (LX12_outlook_42_S S t k) := by
  induction k with
  | zero => exact inv_X12_putAside S hI
  | succ k ih =>
    unfold LX12_outlook_42_S
    split
    · exact inv_X12_tick _ ih
    · exact ih
def sX12_outlook (S : St) (t : Nat) : Int32 := (if S.2 11 49 = 0 then (if ((LX12_outlook_42_S S t t).2 11 49).toInt32 = 0 then 0 else nI (10 * xStop (fun i => (LX12_outlook_42_S S t i).2 11 49) t 0) + ((LX12_outlook_42_S S t t).2 11 49).toInt32) else (S.2 11 49).toInt32)
def sX12_outlook_S (S : St) (t : Nat) : St := (if S.2 11 49 = 0 then sX12_takeBack_S (LX12_outlook_42_S S t t) else S)
set_option maxHeartbeats 4000000 in
set_option maxRecDepth 100000 in
theorem c_X12_outlook (l : Launch) (D : va_G) (cc : Nat → ClassId) (ad : Nat → Nat) (S : St) (t : Nat) (hI : InvM S) (ht1 : 1 ≤ t) (ht : t ≤ 300) (hOK : ∀ k, k < t → (LX12_outlook_42_S S t k).2 11 49 = 0 → OKT (LX12_outlook_42_S S t k)) : CtI l D cc yX12_outlook cX12_outlook 4 .int 5 [.ref (ad 0), .int (nI t)] (MW cc ad S) (sX12_outlook S t) (MW cc ad (sX12_outlook_S S t)) := by
  refine CtI.of (plainFor_of_name (by decide +kernel)) rfl (Nat.le_of_ble_eq_true rfl) ?_
  intro p e s m args below meth c A Q hC hW hend ls hl
  obtain ⟨⟨hx, hb, hml, hown, hts⟩, hNW⟩ := id hC
  have hl : lv_has ls 4 [(0, .ref (ad 0)), (1, .int (nI t))] := hl
  obtain ⟨⟨-, hn1_hI, hn2_hI⟩, ⟨-, hq_hI⟩, -, ⟨-, hh_hI⟩, hs_hI⟩ := id hI
  refine lv_iload_n hx hb dX12_outlook_0 rfl (lv_at hl 1 rfl) ?_
  refine lv_i2l (v := lN t) hx hb dX12_outlook_1 (nI_l (by omega)) ?_
  refine lv_lconst (v := 1) hx hb dX12_outlook_2 rfl ?_
  refine q_ldc2 hC nX12_224 dX12_outlook_3 ?_
  refine q_SI hC hW (c_X12_in l D cc _ (lN t) 1 300) mX12_118 (by decide) rfl hl.1 rfl (Nat.le_of_ble_eq_true rfl) (by decide) dX12_outlook_6 (fun H locs hW => ?_)
  refine q_ri (v := nI 1) (inw ht1 ht) ?_
  refine q_if_ne_n (tgt := 15) hx hb (a := 1) rfl (by omega) dX12_outlook_9 (by decide) (fun c_9 => ?_) (fun c_9 => by exfalso; omega)
  refine lv_aload_n hx hb dX12_outlook_15 rfl (lv_at hl 0 rfl) ?_
  refine q_get hC hW kX12_41 0 (Mg0 cc ad S) (v := .ref (ad 11)) rfl dX12_outlook_16 ?_
  refine lv_bipush (v := 49) hx hb dX12_outlook_19 (by decide) ?_
  refine q_lald hC hW 11 (Mg11 cc ad S) (v := (S.2 11 49)) 49 rfl (by omega) (by decide) rfl dX12_outlook_21 ?_
  refine lv_lconst (v := 0) hx hb dX12_outlook_22 rfl ?_
  refine q_jeq (tgt := 36) hC dX12_outlook_23 dX12_outlook_24 (by decide) (fun c_23 => ?_) (fun c_23 => ?_)
  · skip
    refine lv_aload_n hx hb dX12_outlook_36 rfl (lv_at hl 0 rfl) ?_
    refine q_VV hC hW (c_X12_putAside l D cc ad S) mX12_243 0 (Mg0 cc ad S) rfl (by decide) rfl hl.1 rfl (Nat.le_of_ble_eq_true rfl) (by decide) dX12_outlook_37 (fun H locs hW => ?_)
    refine lv_iconst (v := 0) hx hb dX12_outlook_40 (by decide) ?_
    refine lv_istore_n (lv' := [(2, .int 0), (0, .ref (ad 0)), (1, .int (nI t))]) hx hb dX12_outlook_41 rfl hl (by decide) rfl (fun ls hl => ?_)
    have loop1 : ∀ (rn k : Nat), k + rn = t → xStop (fun i => (LX12_outlook_42_S S t i).2 11 49) rn k = xStop (fun i => (LX12_outlook_42_S S t i).2 11 49) t 0 → ∀ (H : Heap) (locs : List Loc) (ls : Array Slot), Wd D cc (MW cc ad (LX12_outlook_42_S S t k)) A s.heap H locs s → lv_has ls 4 [(0, .ref (ad 0)), (1, .int (nI t)), (2, .int (nI k))] → W p l e (rmD 5) s m args below meth c H locs 0 0 Q (F0 m 42 ls []) := by
      intro rn
      induction rn with
      | zero =>
        intro k hk hinv H locs ls hW hl
        obtain rfl : t = k := by omega
        have hI_1 : InvM (LX12_outlook_42_S S t t) := invL_outlook12 S t t hI
        obtain ⟨⟨-, hn1_hI_1, hn2_hI_1⟩, ⟨-, hq_hI_1⟩, -, ⟨-, hh_hI_1⟩, hs_hI_1⟩ := id hI_1
        have hE : t = xStop (fun i => (LX12_outlook_42_S S t i).2 11 49) t 0 := hinv
        have hEb := xStop_le (fun i => (LX12_outlook_42_S S t i).2 11 49) t 0
        generalize hEe : xStop (fun i => (LX12_outlook_42_S S t i).2 11 49) t 0 = E at hE hEb
        replace hl : lv_has ls 4 [(0, .ref (ad 0)), (1, .int (nI t)), (2, .int (nI E))] := by rw [← hE]; exact hl
        refine lv_iload_n hx hb dX12_outlook_42 rfl (lv_at hl 2 rfl) ?_
        refine lv_iload_n hx hb dX12_outlook_43 rfl (lv_at hl 1 rfl) ?_
        refine q_icmp_ge_n (tgt := 69) hx hb (a := E) (b := t) rfl rfl (by omega) (by omega) dX12_outlook_44 (by decide) (fun c_44 => ?_) (fun c_44 => by exfalso; omega)
        refine lv_aload_n hx hb dX12_outlook_69 rfl (lv_at hl 0 rfl) ?_
        refine q_get hC hW kX12_41 0 (Mg0 cc ad (LX12_outlook_42_S S t t)) (v := .ref (ad 11)) rfl dX12_outlook_70 ?_
        refine lv_bipush (v := 49) hx hb dX12_outlook_73 (by decide) ?_
        refine q_lald hC hW 11 (Mg11 cc ad (LX12_outlook_42_S S t t)) (v := ((LX12_outlook_42_S S t t).2 11 49)) 49 rfl (by omega) (by decide) rfl dX12_outlook_75 ?_
        refine lv_l2i hx hb dX12_outlook_76 rfl ?_
        refine lv_istore_n (lv' := [(3, .int (((LX12_outlook_42_S S t t).2 11 49).toInt32)), (0, .ref (ad 0)), (1, .int (nI t)), (2, .int (nI E))]) hx hb dX12_outlook_77 rfl hl (by decide) rfl (fun ls hl => ?_)
        refine lv_aload_n hx hb dX12_outlook_78 rfl (lv_at hl 1 rfl) ?_
        refine q_VV hC hW (c_X12_takeBack l D cc ad (LX12_outlook_42_S S t t)) mX12_246 0 (Mg0 cc ad (LX12_outlook_42_S S t t)) rfl (by decide) rfl hl.1 rfl (Nat.le_of_ble_eq_true rfl) (by decide) dX12_outlook_79 (fun H locs hW => ?_)
        refine lv_iload_n hx hb dX12_outlook_82 rfl (lv_at hl 0 rfl) ?_
        refine lv_if_ne (tgt := 90) hx hb dX12_outlook_83 (by decide) (fun c_83 => ?_) (fun c_83 => ?_)
        · skip
          refine lv_bipush (v := 10) hx hb dX12_outlook_90 (by decide) ?_
          refine lv_iload_n hx hb dX12_outlook_92 rfl (lv_at hl 3 rfl) ?_
          refine lv_imul hx hb dX12_outlook_93 ?_
          refine q_ri (v := nI (10 * E)) (nq_mul (a := 10) (b := E) rfl rfl) ?_
          refine lv_iload_n hx hb dX12_outlook_94 rfl (lv_at hl 0 rfl) ?_
          refine lv_iadd hx hb dX12_outlook_95 ?_
          exact hend _ _ _ _ _ _ (by first | (simp only [sX12_outlook, if_pos c_23, if_neg c_83]; done) | (unfold sX12_outlook; rw [hEe]; simp only [if_pos c_23, if_neg c_83])) (by simp only [sX12_outlook_S, if_pos c_23, if_neg c_83]) hW dX12_outlook_96
        · skip
          refine lv_iconst (v := 0) hx hb dX12_outlook_86 (by decide) ?_
          refine lv_goto (tgt := 96) hx hb dX12_outlook_87 (by decide) ?_
          exact hend _ _ _ _ _ _ (by first | (simp only [sX12_outlook, if_pos c_23, if_pos c_83]; done) | (unfold sX12_outlook; rw [hEe]; simp only [if_pos c_23, if_pos c_83])) (by simp only [sX12_outlook_S, if_pos c_23, if_pos c_83]) hW dX12_outlook_96
      | succ rn ih =>
        intro k hk hinv H locs ls hW hl
        have hkN : k < t := by omega
        have hI_2 : InvM (LX12_outlook_42_S S t k) := invL_outlook12 S t k hI
        obtain ⟨⟨-, hn1_hI_2, hn2_hI_2⟩, ⟨-, hq_hI_2⟩, -, ⟨-, hh_hI_2⟩, hs_hI_2⟩ := id hI_2
        refine lv_iload_n hx hb dX12_outlook_42 rfl (lv_at hl 2 rfl) ?_
        refine lv_iload_n hx hb dX12_outlook_43 rfl (lv_at hl 1 rfl) ?_
        refine q_icmp_ge_n (tgt := 69) hx hb (a := k) (b := t) rfl rfl (by omega) (by omega) dX12_outlook_44 (by decide) (fun c_44 => by exfalso; omega) (fun c_44 => ?_)
        refine lv_aload_n hx hb dX12_outlook_47 rfl (lv_at hl 0 rfl) ?_
        refine q_get hC hW kX12_41 0 (Mg0 cc ad (LX12_outlook_42_S S t k)) (v := .ref (ad 11)) rfl dX12_outlook_48 ?_
        refine lv_bipush (v := 49) hx hb dX12_outlook_51 (by decide) ?_
        refine q_lald hC hW 11 (Mg11 cc ad (LX12_outlook_42_S S t k)) (v := ((LX12_outlook_42_S S t k).2 11 49)) 49 rfl (by omega) (by decide) rfl dX12_outlook_53 ?_
        refine lv_lconst (v := 0) hx hb dX12_outlook_54 rfl ?_
        refine q_jne (tgt := 69) hC dX12_outlook_55 dX12_outlook_56 (by decide) (fun c_55 => ?_) (fun c_55 => ?_)
        · skip
          have hst := stay (LX12_outlook_42_S S t) (fun X => X.2 11 49 = 0) (fun j hj => by simp only [LX12_outlook_42_S]; exact if_neg hj) k t (by omega) c_55
          rw [← hst] at hW
          have hE : k = xStop (fun i => (LX12_outlook_42_S S t i).2 11 49) t 0 := by rw [← hinv]; simp only [xStop]; exact (if_neg c_55).symm
          have hEb := xStop_le (fun i => (LX12_outlook_42_S S t i).2 11 49) t 0
          generalize hEe : xStop (fun i => (LX12_outlook_42_S S t i).2 11 49) t 0 = E at hE hEb
          replace hl : lv_has ls 4 [(0, .ref (ad 0)), (1, .int (nI t)), (2, .int (nI E))] := by rw [← hE]; exact hl
          have hI_3 : InvM (LX12_outlook_42_S S t t) := invL_outlook12 S t t hI
          obtain ⟨⟨-, hn1_hI_3, hn2_hI_3⟩, ⟨-, hq_hI_3⟩, -, ⟨-, hh_hI_3⟩, hs_hI_3⟩ := id hI_3
          refine lv_aload_n hx hb dX12_outlook_69 rfl (lv_at hl 0 rfl) ?_
          refine q_get hC hW kX12_41 0 (Mg0 cc ad (LX12_outlook_42_S S t t)) (v := .ref (ad 11)) rfl dX12_outlook_70 ?_
          refine lv_bipush (v := 49) hx hb dX12_outlook_73 (by decide) ?_
          refine q_lald hC hW 11 (Mg11 cc ad (LX12_outlook_42_S S t t)) (v := ((LX12_outlook_42_S S t t).2 11 49)) 49 rfl (by omega) (by decide) rfl dX12_outlook_75 ?_
          refine lv_l2i hx hb dX12_outlook_76 rfl ?_
          refine lv_istore_n (lv' := [(3, .int (((LX12_outlook_42_S S t t).2 11 49).toInt32)), (0, .ref (ad 0)), (1, .int (nI t)), (2, .int (nI E))]) hx hb dX12_outlook_77 rfl hl (by decide) rfl (fun ls hl => ?_)
          refine lv_aload_n hx hb dX12_outlook_78 rfl (lv_at hl 1 rfl) ?_
          refine q_VV hC hW (c_X12_takeBack l D cc ad (LX12_outlook_42_S S t t)) mX12_246 0 (Mg0 cc ad (LX12_outlook_42_S S t t)) rfl (by decide) rfl hl.1 rfl (Nat.le_of_ble_eq_true rfl) (by decide) dX12_outlook_79 (fun H locs hW => ?_)
          refine lv_iload_n hx hb dX12_outlook_82 rfl (lv_at hl 0 rfl) ?_
          refine lv_if_ne (tgt := 90) hx hb dX12_outlook_83 (by decide) (fun c_83 => ?_) (fun c_83 => ?_)
          · skip
            refine lv_bipush (v := 10) hx hb dX12_outlook_90 (by decide) ?_
            refine lv_iload_n hx hb dX12_outlook_92 rfl (lv_at hl 3 rfl) ?_
            refine lv_imul hx hb dX12_outlook_93 ?_
            refine q_ri (v := nI (10 * E)) (nq_mul (a := 10) (b := E) rfl rfl) ?_
            refine lv_iload_n hx hb dX12_outlook_94 rfl (lv_at hl 0 rfl) ?_
            refine lv_iadd hx hb dX12_outlook_95 ?_
            exact hend _ _ _ _ _ _ (by first | (simp only [sX12_outlook, if_pos c_23, if_neg c_55, if_neg c_83]; done) | (unfold sX12_outlook; rw [hEe]; simp only [if_pos c_23, if_neg c_55, if_neg c_83])) (by simp only [sX12_outlook_S, if_pos c_23, if_neg c_55, if_neg c_83]) hW dX12_outlook_96
          · skip
            refine lv_iconst (v := 0) hx hb dX12_outlook_86 (by decide) ?_
            refine lv_goto (tgt := 96) hx hb dX12_outlook_87 (by decide) ?_
            exact hend _ _ _ _ _ _ (by first | (simp only [sX12_outlook, if_pos c_23, if_neg c_55, if_pos c_83]; done) | (unfold sX12_outlook; rw [hEe]; simp only [if_pos c_23, if_neg c_55, if_pos c_83])) (by simp only [sX12_outlook_S, if_pos c_23, if_neg c_55, if_pos c_83]) hW dX12_outlook_96
        · skip
          refine lv_aload_n hx hb dX12_outlook_59 rfl (lv_at hl 0 rfl) ?_
          refine q_VV hC hW (c_X12_tick l D cc ad (LX12_outlook_42_S S t k) hI_2 (hOK k (by omega) c_55)) mX12_226 0 (Mg0 cc ad (LX12_outlook_42_S S t k)) rfl (by decide) rfl hl.1 rfl (Nat.le_of_ble_eq_true rfl) (by decide) dX12_outlook_60 (fun H locs hW => ?_)
          have hI_4 : InvM (sX12_tick_S (LX12_outlook_42_S S t k)) := inv_X12_tick (LX12_outlook_42_S S t k) hI_2
          obtain ⟨⟨-, hn1_hI_4, hn2_hI_4⟩, ⟨-, hq_hI_4⟩, -, ⟨-, hh_hI_4⟩, hs_hI_4⟩ := id hI_4
          refine lv_iinc (v := (nI (k + 1))) (lv' := [(2, .int (nI (k + 1))), (0, .ref (ad 0)), (1, .int (nI t))]) hx hb dX12_outlook_63 hl (k := 2) rfl (nq_inc k 1) (by decide) rfl (fun ls hl => ?_)
          refine lv_goto (tgt := 42) hx hb dX12_outlook_66 (by decide) ?_
          exact ih (k + 1) (by omega) (by rw [← hinv]; simp only [xStop]; exact (if_pos c_55).symm) _ _ _ (by simp only [LX12_outlook_42_S, if_pos c_23, if_pos c_55]; exact hW) (lv_sub hl [1, 2, 0] rfl)
    exact loop1 t 0 (by omega) rfl _ _ _ hW (lv_sub hl [1, 2, 0] rfl)
  · skip
    refine lv_aload_n hx hb dX12_outlook_27 rfl (lv_at hl 0 rfl) ?_
    refine q_get hC hW kX12_41 0 (Mg0 cc ad S) (v := .ref (ad 11)) rfl dX12_outlook_28 ?_
    refine lv_bipush (v := 49) hx hb dX12_outlook_31 (by decide) ?_
    refine q_lald hC hW 11 (Mg11 cc ad S) (v := (S.2 11 49)) 49 rfl (by omega) (by decide) rfl dX12_outlook_33 ?_
    refine lv_l2i hx hb dX12_outlook_34 rfl ?_
    exact hend _ _ _ _ _ _ (by first | (simp only [sX12_outlook, if_neg c_23]; done) | (unfold sX12_outlook; rw [hEe]; simp only [if_neg c_23])) (by simp only [sX12_outlook_S, if_neg c_23]) hW dX12_outlook_35
def sX12_bestDraw_no (S : St) (x : Int32) (y : Int32) : Int32 := (-1000001)
set_option maxHeartbeats 4000000 in
set_option maxRecDepth 100000 in
theorem c_X12_bestDraw_no (l : Launch) (D : va_G) (cc : Nat → ClassId) (ad : Nat → Nat) (S : St) (x : Int32) (y : Int32) (hno : sX12_noSpan S x = 1) : CtI l D cc yX12_bestDraw cX12_bestDraw 11 .int 3 [.ref (ad 0), .int x, .int y] (MW cc ad S) (sX12_bestDraw_no S x y) (MW cc ad S) := by
  refine CtI.of (plainFor_of_name (by decide +kernel)) rfl (Nat.le_of_ble_eq_true rfl) ?_
  intro p e s m args below meth c A Q hC hW hend ls hl
  obtain ⟨⟨hx, hb, hml, hown, hts⟩, hNW⟩ := id hC
  have hl : lv_has ls 11 [(0, .ref (ad 0)), (1, .int x), (2, .int y)] := hl
  refine lv_aload_n hx hb dX12_bestDraw_0 rfl (lv_at hl 0 rfl) ?_
  refine lv_iload_n hx hb dX12_bestDraw_1 rfl (lv_at hl 1 rfl) ?_
  refine q_VI hC hW (c_X12_noSpan l D cc ad S x) mX12_135 0 (Mg0 cc ad S) rfl (by decide) rfl hl.1 rfl (Nat.le_of_ble_eq_true rfl) (by decide) dX12_bestDraw_2 (fun H locs hW => ?_)
  refine q_ri (v := nI 1) hno ?_
  refine q_if_eq_n (tgt := 11) hx hb (a := 1) rfl (by omega) dX12_bestDraw_5 (by decide) (fun c_5 => by exfalso; omega) (fun c_5 => ?_)
  refine q_ldc hC nX12_138 dX12_bestDraw_8 ?_
  exact hend _ _ _ _ _ _ (by unfold sX12_bestDraw_no; rfl) rfl hW dX12_bestDraw_10
def LX12_bestDraw_58_S (S : St) (j : Nat) (y : Int32) : Nat → St
  | 0 => S
  | k + 1 => (sJ (LX12_bestDraw_58_S S j y k) 10 j ((xDr k).toInt64))
def LX12_bestDraw_58_6 (S : St) (j : Nat) (y : Int32) : Nat → Int64
  | 0 => (-1)
  | k + 1 => (if 0 ≤ ((sX12_steady (sJ (LX12_bestDraw_58_S S j y k) 10 j ((xDr k).toInt64)) j) - (y.toInt64)) then (if (LX12_bestDraw_58_6 S j y k) < 0 then ((sX12_steady (sJ (LX12_bestDraw_58_S S j y k) 10 j ((xDr k).toInt64)) j) - (y.toInt64)) else (if (LX12_bestDraw_58_6 S j y k) ≤ ((sX12_steady (sJ (LX12_bestDraw_58_S S j y k) 10 j ((xDr k).toInt64)) j) - (y.toInt64)) then (LX12_bestDraw_58_6 S j y k) else ((sX12_steady (sJ (LX12_bestDraw_58_S S j y k) 10 j ((xDr k).toInt64)) j) - (y.toInt64)))) else (if (LX12_bestDraw_58_6 S j y k) < 0 then (-((sX12_steady (sJ (LX12_bestDraw_58_S S j y k) 10 j ((xDr k).toInt64)) j) - (y.toInt64))) else (if (LX12_bestDraw_58_6 S j y k) ≤ (-((sX12_steady (sJ (LX12_bestDraw_58_S S j y k) 10 j ((xDr k).toInt64)) j) - (y.toInt64))) then (LX12_bestDraw_58_6 S j y k) else (-((sX12_steady (sJ (LX12_bestDraw_58_S S j y k) 10 j ((xDr k).toInt64)) j) - (y.toInt64))))))
def LX12_bestDraw_58_5 (S : St) (j : Nat) (y : Int32) : Nat → Int32
  | 0 => 0
  | k + 1 => (if 0 ≤ ((sX12_steady (sJ (LX12_bestDraw_58_S S j y k) 10 j ((xDr k).toInt64)) j) - (y.toInt64)) then (if (LX12_bestDraw_58_6 S j y k) < 0 then (xDr k) else (if (LX12_bestDraw_58_6 S j y k) ≤ ((sX12_steady (sJ (LX12_bestDraw_58_S S j y k) 10 j ((xDr k).toInt64)) j) - (y.toInt64)) then (LX12_bestDraw_58_5 S j y k) else (xDr k))) else (if (LX12_bestDraw_58_6 S j y k) < 0 then (xDr k) else (if (LX12_bestDraw_58_6 S j y k) ≤ (-((sX12_steady (sJ (LX12_bestDraw_58_S S j y k) 10 j ((xDr k).toInt64)) j) - (y.toInt64))) then (LX12_bestDraw_58_5 S j y k) else (xDr k))))
theorem R_best (S : St) (j : Nat) (y : Int32) (k a b : Nat) (ha : ¬ a = 10) : (LX12_bestDraw_58_S S j y k).2 a b = S.2 a b := by
  induction k with
  | zero => rfl
  | succ k ih =>
    unfold LX12_bestDraw_58_S
    repeat' split
    all_goals (rw [rJ_sk _ _ _ _ _ _ (by omega)]; exact ih)
def sX12_bestDraw (S : St) (j : Nat) (y : Int32) : Int32 := (if (sX12_in (y.toInt64) 0 1000000) = 0 then (-1000002) else (if (S.2 0 4) = 0 then (-1000005) else (LX12_bestDraw_58_5 S j y 801)))
def sX12_bestDraw_S (S : St) (j : Nat) (y : Int32) : St := (if (sX12_in (y.toInt64) 0 1000000) = 0 then S else (if (S.2 0 4) = 0 then S else (sJ (LX12_bestDraw_58_S S j y 801) 10 j (S.2 10 j))))
set_option maxHeartbeats 4000000 in
set_option maxRecDepth 100000 in
theorem c_X12_bestDraw (l : Launch) (D : va_G) (cc : Nat → ClassId) (ad : Nat → Nat) (S : St) (j : Nat) (y : Int32) (hI : InvM S) (hj : j < cN S) : CtI l D cc yX12_bestDraw cX12_bestDraw 11 .int 3 [.ref (ad 0), .int (nI j), .int y] (MW cc ad S) (sX12_bestDraw S j y) (MW cc ad (sX12_bestDraw_S S j y)) := by
  refine CtI.of (plainFor_of_name (by decide +kernel)) rfl (Nat.le_of_ble_eq_true rfl) ?_
  intro p e s m args below meth c A Q hC hW hend ls hl
  obtain ⟨⟨hx, hb, hml, hown, hts⟩, hNW⟩ := id hC
  have hl : lv_has ls 11 [(0, .ref (ad 0)), (1, .int (nI j)), (2, .int y)] := hl
  obtain ⟨⟨-, hn1_hI, hn2_hI⟩, ⟨-, hq_hI⟩, -, ⟨-, hh_hI⟩, hs_hI⟩ := id hI
  refine lv_aload_n hx hb dX12_bestDraw_0 rfl (lv_at hl 0 rfl) ?_
  refine lv_iload_n hx hb dX12_bestDraw_1 rfl (lv_at hl 1 rfl) ?_
  refine q_VI hC hW (c_X12_noSpan l D cc ad S (nI j)) mX12_135 0 (Mg0 cc ad S) rfl (by decide) rfl hl.1 rfl (Nat.le_of_ble_eq_true rfl) (by decide) dX12_bestDraw_2 (fun H locs hW => ?_)
  refine q_ri (v := nI 0) (noSpan_0 S j hI hj) ?_
  refine q_if_eq_n (tgt := 11) hx hb (a := 0) rfl (by omega) dX12_bestDraw_5 (by decide) (fun c_5 => ?_) (fun c_5 => by exfalso; omega)
  refine lv_iload_n hx hb dX12_bestDraw_11 rfl (lv_at hl 2 rfl) ?_
  refine lv_i2l hx hb dX12_bestDraw_12 rfl ?_
  refine lv_lconst (v := 0) hx hb dX12_bestDraw_13 rfl ?_
  refine q_ldc2 hC nX12_73 dX12_bestDraw_14 ?_
  refine q_SI hC hW (c_X12_in l D cc _ (y.toInt64) 0 1000000) mX12_118 (by decide) rfl hl.1 rfl (Nat.le_of_ble_eq_true rfl) (by decide) dX12_bestDraw_17 (fun H locs hW => ?_)
  refine lv_if_ne (tgt := 26) hx hb dX12_bestDraw_20 (by decide) (fun c_20 => ?_) (fun c_20 => ?_)
  · skip
    refine lv_aload_n hx hb dX12_bestDraw_26 rfl (lv_at hl 0 rfl) ?_
    refine q_get hC hW kX12_90 0 (Mg0 cc ad S) (v := .long (S.2 0 4)) rfl dX12_bestDraw_27 ?_
    refine lv_lconst (v := 0) hx hb dX12_bestDraw_30 rfl ?_
    refine q_jne (tgt := 38) hC dX12_bestDraw_31 dX12_bestDraw_32 (by decide) (fun c_31 => ?_) (fun c_31 => ?_)
    · skip
      refine lv_aload_n hx hb dX12_bestDraw_38 rfl (lv_at hl 0 rfl) ?_
      refine q_get hC hW kX12_38 0 (Mg0 cc ad S) (v := .ref (ad 10)) rfl dX12_bestDraw_39 ?_
      refine lv_iload_n hx hb dX12_bestDraw_42 rfl (lv_at hl 1 rfl) ?_
      refine q_lald hC hW 10 (Mg10 cc ad S) (v := (S.2 10 j)) j rfl (by omega) (by decide) rfl dX12_bestDraw_43 ?_
      refine lv_lstore_n (lv' := [(3, .long (S.2 10 j)), (0, .ref (ad 0)), (1, .int (nI j)), (2, .int y)]) hx hb dX12_bestDraw_44 rfl hl (by decide) rfl (fun ls hl => ?_)
      refine lv_iconst (v := 0) hx hb dX12_bestDraw_45 (by decide) ?_
      refine lv_istore (lv' := [(5, .int 0), (3, .long (S.2 10 j)), (0, .ref (ad 0)), (1, .int (nI j)), (2, .int y)]) hx hb dX12_bestDraw_46 hl (by decide) rfl (fun ls hl => ?_)
      refine q_ldc2 hC nX12_241 dX12_bestDraw_48 ?_
      refine lv_lstore (lv' := [(6, .long (-1)), (5, .int 0), (3, .long (S.2 10 j)), (0, .ref (ad 0)), (1, .int (nI j)), (2, .int y)]) hx hb dX12_bestDraw_51 hl (by decide) rfl (fun ls hl => ?_)
      refine lv_sipush (v := (-20000)) hx hb dX12_bestDraw_53 (by decide) ?_
      refine lv_istore (lv' := [(8, .int (-20000)), (6, .long (-1)), (5, .int 0), (3, .long (S.2 10 j)), (0, .ref (ad 0)), (1, .int (nI j)), (2, .int y)]) hx hb dX12_bestDraw_56 hl (by decide) rfl (fun ls hl => ?_)
      have loop1 : ∀ (rn k : Nat), k + rn = 801 → ∀ (H : Heap) (locs : List Loc) (ls : Array Slot), Wd D cc (MW cc ad (LX12_bestDraw_58_S S j y k)) A s.heap H locs s → lv_has ls 11 [(0, .ref (ad 0)), (1, .int (nI j)), (2, .int y), (3, .long (S.2 10 j)), (5, .int (LX12_bestDraw_58_5 S j y k)), (6, .long (LX12_bestDraw_58_6 S j y k)), (8, .int (xDr k))] → W p l e (rmD 3) s m args below meth c H locs 0 0 Q (F0 m 58 ls []) := by
        intro rn
        induction rn with
        | zero =>
          intro k hk H locs ls hW hl
          obtain rfl : 801 = k := by omega
          refine lv_iload hx hb dX12_bestDraw_58 (lv_at hl 6 rfl) ?_
          refine lv_sipush (v := 20000) hx hb dX12_bestDraw_60 (by decide) ?_
          refine lv_icmp_gt (tgt := 156) hx hb dX12_bestDraw_63 (by decide) (fun c_63 => ?_) (fun c_63 => by exfalso; first | exact c_63 xDr_out | exact xDr_in _ hkN c_63)
          refine lv_aload_n hx hb dX12_bestDraw_156 rfl (lv_at hl 0 rfl) ?_
          refine q_get hC hW kX12_38 0 (Mg0 cc ad (LX12_bestDraw_58_S S j y 801)) (v := .ref (ad 10)) rfl dX12_bestDraw_157 ?_
          refine lv_iload_n hx hb dX12_bestDraw_160 rfl (lv_at hl 1 rfl) ?_
          refine lv_lload_n hx hb dX12_bestDraw_161 rfl (lv_at hl 3 rfl) ?_
          refine q_last hC hW 10 (Mg10 cc ad (LX12_bestDraw_58_S S j y 801)) j rfl (by omega) (by decide) (Ms10 cc ad (LX12_bestDraw_58_S S j y 801) j (S.2 10 j)) dX12_bestDraw_162 (fun H locs hW => ?_)
          refine lv_iload hx hb dX12_bestDraw_163 (lv_at hl 4 rfl) ?_
          exact hend _ _ _ _ _ _ (by simp only [sX12_bestDraw, if_neg c_20, if_neg c_31]) (by simp only [sX12_bestDraw_S, if_neg c_20, if_neg c_31]) hW dX12_bestDraw_165
        | succ rn ih =>
          intro k hk H locs ls hW hl
          have hkN : k < 801 := by omega
          refine lv_iload hx hb dX12_bestDraw_58 (lv_at hl 6 rfl) ?_
          refine lv_sipush (v := 20000) hx hb dX12_bestDraw_60 (by decide) ?_
          refine lv_icmp_gt (tgt := 156) hx hb dX12_bestDraw_63 (by decide) (fun c_63 => by exfalso; first | exact c_63 xDr_out | exact xDr_in _ hkN c_63) (fun c_63 => ?_)
          refine lv_aload_n hx hb dX12_bestDraw_66 rfl (lv_at hl 0 rfl) ?_
          refine q_get hC hW kX12_38 0 (Mg0 cc ad (LX12_bestDraw_58_S S j y k)) (v := .ref (ad 10)) rfl dX12_bestDraw_67 ?_
          refine lv_iload_n hx hb dX12_bestDraw_70 rfl (lv_at hl 1 rfl) ?_
          refine lv_iload hx hb dX12_bestDraw_71 (lv_at hl 6 rfl) ?_
          refine lv_i2l hx hb dX12_bestDraw_73 rfl ?_
          refine q_last hC hW 10 (Mg10 cc ad (LX12_bestDraw_58_S S j y k)) j rfl (by omega) (by decide) (Ms10 cc ad (LX12_bestDraw_58_S S j y k) j ((xDr k).toInt64)) dX12_bestDraw_74 (fun H locs hW => ?_)
          refine lv_aload_n hx hb dX12_bestDraw_75 rfl (lv_at hl 0 rfl) ?_
          refine lv_iload_n hx hb dX12_bestDraw_76 rfl (lv_at hl 1 rfl) ?_
          refine q_VL hC hW (c_X12_steady l D cc ad (sJ (LX12_bestDraw_58_S S j y k) 10 j ((xDr k).toInt64)) j (by omega) (by rw [rJ_sk _ _ _ _ _ _ (by omega), R_best _ _ _ _ _ _ (by decide)]; exact c_31)) mX12_238 0 (Mg0 cc ad (sJ (LX12_bestDraw_58_S S j y k) 10 j ((xDr k).toInt64))) rfl (by decide) rfl hl.1 rfl (Nat.le_of_ble_eq_true rfl) (by decide) dX12_bestDraw_77 (fun H locs hW => ?_)
          refine lv_iload_n hx hb dX12_bestDraw_80 rfl (lv_at hl 2 rfl) ?_
          refine lv_i2l hx hb dX12_bestDraw_81 rfl ?_
          refine lv_lsub hx hb dX12_bestDraw_82 ?_
          refine lv_lstore (lv' := [(9, .long ((sX12_steady (sJ (LX12_bestDraw_58_S S j y k) 10 j ((xDr k).toInt64)) j) - (y.toInt64))), (0, .ref (ad 0)), (1, .int (nI j)), (2, .int y), (3, .long (S.2 10 j)), (5, .int (LX12_bestDraw_58_5 S j y k)), (6, .long (LX12_bestDraw_58_6 S j y k)), (8, .int (xDr k))]) hx hb dX12_bestDraw_83 hl (by decide) rfl (fun ls hl => ?_)
          refine lv_lload hx hb dX12_bestDraw_85 (lv_at hl 0 rfl) ?_
          refine lv_lconst (v := 0) hx hb dX12_bestDraw_87 rfl ?_
          refine q_jge (tgt := 98) hC dX12_bestDraw_88 dX12_bestDraw_89 (by decide) (fun c_88 => ?_) (fun c_88 => ?_)
          · skip
            refine lv_lload hx hb dX12_bestDraw_98 (lv_at hl 0 rfl) ?_
            refine lv_lstore (lv' := [(9, .long ((sX12_steady (sJ (LX12_bestDraw_58_S S j y k) 10 j ((xDr k).toInt64)) j) - (y.toInt64))), (0, .ref (ad 0)), (1, .int (nI j)), (2, .int y), (3, .long (S.2 10 j)), (5, .int (LX12_bestDraw_58_5 S j y k)), (6, .long (LX12_bestDraw_58_6 S j y k)), (8, .int (xDr k))]) hx hb dX12_bestDraw_100 hl (by decide) rfl (fun ls hl => ?_)
            refine lv_lload hx hb dX12_bestDraw_102 (lv_at hl 6 rfl) ?_
            refine lv_lconst (v := 0) hx hb dX12_bestDraw_104 rfl ?_
            refine q_jlt (tgt := 117) hC dX12_bestDraw_105 dX12_bestDraw_106 (by decide) (fun c_105 => ?_) (fun c_105 => ?_)
            · skip
              refine lv_iload hx hb dX12_bestDraw_117 (lv_at hl 7 rfl) ?_
              refine lv_goto (tgt := 124) hx hb dX12_bestDraw_119 (by decide) ?_
              refine lv_istore (lv' := [(5, .int (xDr k)), (9, .long ((sX12_steady (sJ (LX12_bestDraw_58_S S j y k) 10 j ((xDr k).toInt64)) j) - (y.toInt64))), (0, .ref (ad 0)), (1, .int (nI j)), (2, .int y), (3, .long (S.2 10 j)), (6, .long (LX12_bestDraw_58_6 S j y k)), (8, .int (xDr k))]) hx hb dX12_bestDraw_124 hl (by decide) rfl (fun ls hl => ?_)
              refine lv_lload hx hb dX12_bestDraw_126 (lv_at hl 6 rfl) ?_
              refine lv_lconst (v := 0) hx hb dX12_bestDraw_128 rfl ?_
              refine q_jlt (tgt := 141) hC dX12_bestDraw_129 dX12_bestDraw_130 (by decide) (fun c_129 => ?_) (fun c_129 => by exfalso; exact c_129 c_105)
              refine lv_lload hx hb dX12_bestDraw_141 (lv_at hl 1 rfl) ?_
              refine lv_goto (tgt := 148) hx hb dX12_bestDraw_143 (by decide) ?_
              refine lv_lstore (lv' := [(6, .long ((sX12_steady (sJ (LX12_bestDraw_58_S S j y k) 10 j ((xDr k).toInt64)) j) - (y.toInt64))), (5, .int (xDr k)), (9, .long ((sX12_steady (sJ (LX12_bestDraw_58_S S j y k) 10 j ((xDr k).toInt64)) j) - (y.toInt64))), (0, .ref (ad 0)), (1, .int (nI j)), (2, .int y), (3, .long (S.2 10 j)), (8, .int (xDr k))]) hx hb dX12_bestDraw_148 hl (by decide) rfl (fun ls hl => ?_)
              refine lv_iinc (v := ((xDr k) + 50)) (lv' := [(8, .int ((xDr k) + 50)), (6, .long ((sX12_steady (sJ (LX12_bestDraw_58_S S j y k) 10 j ((xDr k).toInt64)) j) - (y.toInt64))), (5, .int (xDr k)), (9, .long ((sX12_steady (sJ (LX12_bestDraw_58_S S j y k) 10 j ((xDr k).toInt64)) j) - (y.toInt64))), (0, .ref (ad 0)), (1, .int (nI j)), (2, .int y), (3, .long (S.2 10 j))]) hx hb dX12_bestDraw_150 hl (k := 7) rfl rfl (by decide) rfl (fun ls hl => ?_)
              refine lv_goto (tgt := 58) hx hb dX12_bestDraw_153 (by decide) ?_
              exact ih (k + 1) (by omega) _ _ _ (by simp only [LX12_bestDraw_58_S, LX12_bestDraw_58_6, LX12_bestDraw_58_5, xDr_s, if_neg c_20, if_neg c_31, if_pos c_88, if_pos c_105]; exact hW) (lv_sub hl [4, 5, 6, 7, 2, 1, 0] (by simp only [LX12_bestDraw_58_S, LX12_bestDraw_58_6, LX12_bestDraw_58_5, xDr_s, if_neg c_20, if_neg c_31, if_pos c_88, if_pos c_105]; rfl))
            · skip
              refine lv_lload hx hb dX12_bestDraw_109 (lv_at hl 0 rfl) ?_
              refine lv_lload hx hb dX12_bestDraw_111 (lv_at hl 6 rfl) ?_
              refine q_jge (tgt := 122) hC dX12_bestDraw_113 dX12_bestDraw_114 (by decide) (fun c_113 => ?_) (fun c_113 => ?_)
              · skip
                refine lv_iload hx hb dX12_bestDraw_122 (lv_at hl 5 rfl) ?_
                refine lv_istore (lv' := [(5, .int (LX12_bestDraw_58_5 S j y k)), (9, .long ((sX12_steady (sJ (LX12_bestDraw_58_S S j y k) 10 j ((xDr k).toInt64)) j) - (y.toInt64))), (0, .ref (ad 0)), (1, .int (nI j)), (2, .int y), (3, .long (S.2 10 j)), (6, .long (LX12_bestDraw_58_6 S j y k)), (8, .int (xDr k))]) hx hb dX12_bestDraw_124 hl (by decide) rfl (fun ls hl => ?_)
                refine lv_lload hx hb dX12_bestDraw_126 (lv_at hl 6 rfl) ?_
                refine lv_lconst (v := 0) hx hb dX12_bestDraw_128 rfl ?_
                refine q_jlt (tgt := 141) hC dX12_bestDraw_129 dX12_bestDraw_130 (by decide) (fun c_129 => by exfalso; exact c_105 c_129) (fun c_129 => ?_)
                refine lv_lload hx hb dX12_bestDraw_133 (lv_at hl 1 rfl) ?_
                refine lv_lload hx hb dX12_bestDraw_135 (lv_at hl 6 rfl) ?_
                refine q_jge (tgt := 146) hC dX12_bestDraw_137 dX12_bestDraw_138 (by decide) (fun c_137 => ?_) (fun c_137 => by exfalso; exact c_137 c_113)
                refine lv_lload hx hb dX12_bestDraw_146 (lv_at hl 6 rfl) ?_
                refine lv_lstore (lv' := [(6, .long (LX12_bestDraw_58_6 S j y k)), (5, .int (LX12_bestDraw_58_5 S j y k)), (9, .long ((sX12_steady (sJ (LX12_bestDraw_58_S S j y k) 10 j ((xDr k).toInt64)) j) - (y.toInt64))), (0, .ref (ad 0)), (1, .int (nI j)), (2, .int y), (3, .long (S.2 10 j)), (8, .int (xDr k))]) hx hb dX12_bestDraw_148 hl (by decide) rfl (fun ls hl => ?_)
                refine lv_iinc (v := ((xDr k) + 50)) (lv' := [(8, .int ((xDr k) + 50)), (6, .long (LX12_bestDraw_58_6 S j y k)), (5, .int (LX12_bestDraw_58_5 S j y k)), (9, .long ((sX12_steady (sJ (LX12_bestDraw_58_S S j y k) 10 j ((xDr k).toInt64)) j) - (y.toInt64))), (0, .ref (ad 0)), (1, .int (nI j)), (2, .int y), (3, .long (S.2 10 j))]) hx hb dX12_bestDraw_150 hl (k := 7) rfl rfl (by decide) rfl (fun ls hl => ?_)
                refine lv_goto (tgt := 58) hx hb dX12_bestDraw_153 (by decide) ?_
                exact ih (k + 1) (by omega) _ _ _ (by simp only [LX12_bestDraw_58_S, LX12_bestDraw_58_6, LX12_bestDraw_58_5, xDr_s, if_neg c_20, if_neg c_31, if_pos c_88, if_neg c_105, if_pos c_113]; exact hW) (lv_sub hl [4, 5, 6, 7, 2, 1, 0] (by simp only [LX12_bestDraw_58_S, LX12_bestDraw_58_6, LX12_bestDraw_58_5, xDr_s, if_neg c_20, if_neg c_31, if_pos c_88, if_neg c_105, if_pos c_113]; rfl))
              · skip
                refine lv_iload hx hb dX12_bestDraw_117 (lv_at hl 7 rfl) ?_
                refine lv_goto (tgt := 124) hx hb dX12_bestDraw_119 (by decide) ?_
                refine lv_istore (lv' := [(5, .int (xDr k)), (9, .long ((sX12_steady (sJ (LX12_bestDraw_58_S S j y k) 10 j ((xDr k).toInt64)) j) - (y.toInt64))), (0, .ref (ad 0)), (1, .int (nI j)), (2, .int y), (3, .long (S.2 10 j)), (6, .long (LX12_bestDraw_58_6 S j y k)), (8, .int (xDr k))]) hx hb dX12_bestDraw_124 hl (by decide) rfl (fun ls hl => ?_)
                refine lv_lload hx hb dX12_bestDraw_126 (lv_at hl 6 rfl) ?_
                refine lv_lconst (v := 0) hx hb dX12_bestDraw_128 rfl ?_
                refine q_jlt (tgt := 141) hC dX12_bestDraw_129 dX12_bestDraw_130 (by decide) (fun c_129 => by exfalso; exact c_105 c_129) (fun c_129 => ?_)
                refine lv_lload hx hb dX12_bestDraw_133 (lv_at hl 1 rfl) ?_
                refine lv_lload hx hb dX12_bestDraw_135 (lv_at hl 6 rfl) ?_
                refine q_jge (tgt := 146) hC dX12_bestDraw_137 dX12_bestDraw_138 (by decide) (fun c_137 => by exfalso; exact c_113 c_137) (fun c_137 => ?_)
                refine lv_lload hx hb dX12_bestDraw_141 (lv_at hl 1 rfl) ?_
                refine lv_goto (tgt := 148) hx hb dX12_bestDraw_143 (by decide) ?_
                refine lv_lstore (lv' := [(6, .long ((sX12_steady (sJ (LX12_bestDraw_58_S S j y k) 10 j ((xDr k).toInt64)) j) - (y.toInt64))), (5, .int (xDr k)), (9, .long ((sX12_steady (sJ (LX12_bestDraw_58_S S j y k) 10 j ((xDr k).toInt64)) j) - (y.toInt64))), (0, .ref (ad 0)), (1, .int (nI j)), (2, .int y), (3, .long (S.2 10 j)), (8, .int (xDr k))]) hx hb dX12_bestDraw_148 hl (by decide) rfl (fun ls hl => ?_)
                refine lv_iinc (v := ((xDr k) + 50)) (lv' := [(8, .int ((xDr k) + 50)), (6, .long ((sX12_steady (sJ (LX12_bestDraw_58_S S j y k) 10 j ((xDr k).toInt64)) j) - (y.toInt64))), (5, .int (xDr k)), (9, .long ((sX12_steady (sJ (LX12_bestDraw_58_S S j y k) 10 j ((xDr k).toInt64)) j) - (y.toInt64))), (0, .ref (ad 0)), (1, .int (nI j)), (2, .int y), (3, .long (S.2 10 j))]) hx hb dX12_bestDraw_150 hl (k := 7) rfl rfl (by decide) rfl (fun ls hl => ?_)
                refine lv_goto (tgt := 58) hx hb dX12_bestDraw_153 (by decide) ?_
                exact ih (k + 1) (by omega) _ _ _ (by simp only [LX12_bestDraw_58_S, LX12_bestDraw_58_6, LX12_bestDraw_58_5, xDr_s, if_neg c_20, if_neg c_31, if_pos c_88, if_neg c_105, if_neg c_113]; exact hW) (lv_sub hl [4, 5, 6, 7, 2, 1, 0] (by simp only [LX12_bestDraw_58_S, LX12_bestDraw_58_6, LX12_bestDraw_58_5, xDr_s, if_neg c_20, if_neg c_31, if_pos c_88, if_neg c_105, if_neg c_113]; rfl))
          · skip
            refine lv_lload hx hb dX12_bestDraw_92 (lv_at hl 0 rfl) ?_
            refine lv_lneg hx hb dX12_bestDraw_94 ?_
            refine lv_goto (tgt := 100) hx hb dX12_bestDraw_95 (by decide) ?_
            refine lv_lstore (lv' := [(9, .long (-((sX12_steady (sJ (LX12_bestDraw_58_S S j y k) 10 j ((xDr k).toInt64)) j) - (y.toInt64)))), (0, .ref (ad 0)), (1, .int (nI j)), (2, .int y), (3, .long (S.2 10 j)), (5, .int (LX12_bestDraw_58_5 S j y k)), (6, .long (LX12_bestDraw_58_6 S j y k)), (8, .int (xDr k))]) hx hb dX12_bestDraw_100 hl (by decide) rfl (fun ls hl => ?_)
            refine lv_lload hx hb dX12_bestDraw_102 (lv_at hl 6 rfl) ?_
            refine lv_lconst (v := 0) hx hb dX12_bestDraw_104 rfl ?_
            refine q_jlt (tgt := 117) hC dX12_bestDraw_105 dX12_bestDraw_106 (by decide) (fun c_105 => ?_) (fun c_105 => ?_)
            · skip
              refine lv_iload hx hb dX12_bestDraw_117 (lv_at hl 7 rfl) ?_
              refine lv_goto (tgt := 124) hx hb dX12_bestDraw_119 (by decide) ?_
              refine lv_istore (lv' := [(5, .int (xDr k)), (9, .long (-((sX12_steady (sJ (LX12_bestDraw_58_S S j y k) 10 j ((xDr k).toInt64)) j) - (y.toInt64)))), (0, .ref (ad 0)), (1, .int (nI j)), (2, .int y), (3, .long (S.2 10 j)), (6, .long (LX12_bestDraw_58_6 S j y k)), (8, .int (xDr k))]) hx hb dX12_bestDraw_124 hl (by decide) rfl (fun ls hl => ?_)
              refine lv_lload hx hb dX12_bestDraw_126 (lv_at hl 6 rfl) ?_
              refine lv_lconst (v := 0) hx hb dX12_bestDraw_128 rfl ?_
              refine q_jlt (tgt := 141) hC dX12_bestDraw_129 dX12_bestDraw_130 (by decide) (fun c_129 => ?_) (fun c_129 => by exfalso; exact c_129 c_105)
              refine lv_lload hx hb dX12_bestDraw_141 (lv_at hl 1 rfl) ?_
              refine lv_goto (tgt := 148) hx hb dX12_bestDraw_143 (by decide) ?_
              refine lv_lstore (lv' := [(6, .long (-((sX12_steady (sJ (LX12_bestDraw_58_S S j y k) 10 j ((xDr k).toInt64)) j) - (y.toInt64)))), (5, .int (xDr k)), (9, .long (-((sX12_steady (sJ (LX12_bestDraw_58_S S j y k) 10 j ((xDr k).toInt64)) j) - (y.toInt64)))), (0, .ref (ad 0)), (1, .int (nI j)), (2, .int y), (3, .long (S.2 10 j)), (8, .int (xDr k))]) hx hb dX12_bestDraw_148 hl (by decide) rfl (fun ls hl => ?_)
              refine lv_iinc (v := ((xDr k) + 50)) (lv' := [(8, .int ((xDr k) + 50)), (6, .long (-((sX12_steady (sJ (LX12_bestDraw_58_S S j y k) 10 j ((xDr k).toInt64)) j) - (y.toInt64)))), (5, .int (xDr k)), (9, .long (-((sX12_steady (sJ (LX12_bestDraw_58_S S j y k) 10 j ((xDr k).toInt64)) j) - (y.toInt64)))), (0, .ref (ad 0)), (1, .int (nI j)), (2, .int y), (3, .long (S.2 10 j))]) hx hb dX12_bestDraw_150 hl (k := 7) rfl rfl (by decide) rfl (fun ls hl => ?_)
              refine lv_goto (tgt := 58) hx hb dX12_bestDraw_153 (by decide) ?_
              exact ih (k + 1) (by omega) _ _ _ (by simp only [LX12_bestDraw_58_S, LX12_bestDraw_58_6, LX12_bestDraw_58_5, xDr_s, if_neg c_20, if_neg c_31, if_neg c_88, if_pos c_105]; exact hW) (lv_sub hl [4, 5, 6, 7, 2, 1, 0] (by simp only [LX12_bestDraw_58_S, LX12_bestDraw_58_6, LX12_bestDraw_58_5, xDr_s, if_neg c_20, if_neg c_31, if_neg c_88, if_pos c_105]; rfl))
            · skip
              refine lv_lload hx hb dX12_bestDraw_109 (lv_at hl 0 rfl) ?_
              refine lv_lload hx hb dX12_bestDraw_111 (lv_at hl 6 rfl) ?_
              refine q_jge (tgt := 122) hC dX12_bestDraw_113 dX12_bestDraw_114 (by decide) (fun c_113 => ?_) (fun c_113 => ?_)
              · skip
                refine lv_iload hx hb dX12_bestDraw_122 (lv_at hl 5 rfl) ?_
                refine lv_istore (lv' := [(5, .int (LX12_bestDraw_58_5 S j y k)), (9, .long (-((sX12_steady (sJ (LX12_bestDraw_58_S S j y k) 10 j ((xDr k).toInt64)) j) - (y.toInt64)))), (0, .ref (ad 0)), (1, .int (nI j)), (2, .int y), (3, .long (S.2 10 j)), (6, .long (LX12_bestDraw_58_6 S j y k)), (8, .int (xDr k))]) hx hb dX12_bestDraw_124 hl (by decide) rfl (fun ls hl => ?_)
                refine lv_lload hx hb dX12_bestDraw_126 (lv_at hl 6 rfl) ?_
                refine lv_lconst (v := 0) hx hb dX12_bestDraw_128 rfl ?_
                refine q_jlt (tgt := 141) hC dX12_bestDraw_129 dX12_bestDraw_130 (by decide) (fun c_129 => by exfalso; exact c_105 c_129) (fun c_129 => ?_)
                refine lv_lload hx hb dX12_bestDraw_133 (lv_at hl 1 rfl) ?_
                refine lv_lload hx hb dX12_bestDraw_135 (lv_at hl 6 rfl) ?_
                refine q_jge (tgt := 146) hC dX12_bestDraw_137 dX12_bestDraw_138 (by decide) (fun c_137 => ?_) (fun c_137 => by exfalso; exact c_137 c_113)
                refine lv_lload hx hb dX12_bestDraw_146 (lv_at hl 6 rfl) ?_
                refine lv_lstore (lv' := [(6, .long (LX12_bestDraw_58_6 S j y k)), (5, .int (LX12_bestDraw_58_5 S j y k)), (9, .long (-((sX12_steady (sJ (LX12_bestDraw_58_S S j y k) 10 j ((xDr k).toInt64)) j) - (y.toInt64)))), (0, .ref (ad 0)), (1, .int (nI j)), (2, .int y), (3, .long (S.2 10 j)), (8, .int (xDr k))]) hx hb dX12_bestDraw_148 hl (by decide) rfl (fun ls hl => ?_)
                refine lv_iinc (v := ((xDr k) + 50)) (lv' := [(8, .int ((xDr k) + 50)), (6, .long (LX12_bestDraw_58_6 S j y k)), (5, .int (LX12_bestDraw_58_5 S j y k)), (9, .long (-((sX12_steady (sJ (LX12_bestDraw_58_S S j y k) 10 j ((xDr k).toInt64)) j) - (y.toInt64)))), (0, .ref (ad 0)), (1, .int (nI j)), (2, .int y), (3, .long (S.2 10 j))]) hx hb dX12_bestDraw_150 hl (k := 7) rfl rfl (by decide) rfl (fun ls hl => ?_)
                refine lv_goto (tgt := 58) hx hb dX12_bestDraw_153 (by decide) ?_
                exact ih (k + 1) (by omega) _ _ _ (by simp only [LX12_bestDraw_58_S, LX12_bestDraw_58_6, LX12_bestDraw_58_5, xDr_s, if_neg c_20, if_neg c_31, if_neg c_88, if_neg c_105, if_pos c_113]; exact hW) (lv_sub hl [4, 5, 6, 7, 2, 1, 0] (by simp only [LX12_bestDraw_58_S, LX12_bestDraw_58_6, LX12_bestDraw_58_5, xDr_s, if_neg c_20, if_neg c_31, if_neg c_88, if_neg c_105, if_pos c_113]; rfl))
              · skip
                refine lv_iload hx hb dX12_bestDraw_117 (lv_at hl 7 rfl) ?_
                refine lv_goto (tgt := 124) hx hb dX12_bestDraw_119 (by decide) ?_
                refine lv_istore (lv' := [(5, .int (xDr k)), (9, .long (-((sX12_steady (sJ (LX12_bestDraw_58_S S j y k) 10 j ((xDr k).toInt64)) j) - (y.toInt64)))), (0, .ref (ad 0)), (1, .int (nI j)), (2, .int y), (3, .long (S.2 10 j)), (6, .long (LX12_bestDraw_58_6 S j y k)), (8, .int (xDr k))]) hx hb dX12_bestDraw_124 hl (by decide) rfl (fun ls hl => ?_)
                refine lv_lload hx hb dX12_bestDraw_126 (lv_at hl 6 rfl) ?_
                refine lv_lconst (v := 0) hx hb dX12_bestDraw_128 rfl ?_
                refine q_jlt (tgt := 141) hC dX12_bestDraw_129 dX12_bestDraw_130 (by decide) (fun c_129 => by exfalso; exact c_105 c_129) (fun c_129 => ?_)
                refine lv_lload hx hb dX12_bestDraw_133 (lv_at hl 1 rfl) ?_
                refine lv_lload hx hb dX12_bestDraw_135 (lv_at hl 6 rfl) ?_
                refine q_jge (tgt := 146) hC dX12_bestDraw_137 dX12_bestDraw_138 (by decide) (fun c_137 => by exfalso; exact c_113 c_137) (fun c_137 => ?_)
                refine lv_lload hx hb dX12_bestDraw_141 (lv_at hl 1 rfl) ?_
                refine lv_goto (tgt := 148) hx hb dX12_bestDraw_143 (by decide) ?_
                refine lv_lstore (lv' := [(6, .long (-((sX12_steady (sJ (LX12_bestDraw_58_S S j y k) 10 j ((xDr k).toInt64)) j) - (y.toInt64)))), (5, .int (xDr k)), (9, .long (-((sX12_steady (sJ (LX12_bestDraw_58_S S j y k) 10 j ((xDr k).toInt64)) j) - (y.toInt64)))), (0, .ref (ad 0)), (1, .int (nI j)), (2, .int y), (3, .long (S.2 10 j)), (8, .int (xDr k))]) hx hb dX12_bestDraw_148 hl (by decide) rfl (fun ls hl => ?_)
                refine lv_iinc (v := ((xDr k) + 50)) (lv' := [(8, .int ((xDr k) + 50)), (6, .long (-((sX12_steady (sJ (LX12_bestDraw_58_S S j y k) 10 j ((xDr k).toInt64)) j) - (y.toInt64)))), (5, .int (xDr k)), (9, .long (-((sX12_steady (sJ (LX12_bestDraw_58_S S j y k) 10 j ((xDr k).toInt64)) j) - (y.toInt64)))), (0, .ref (ad 0)), (1, .int (nI j)), (2, .int y), (3, .long (S.2 10 j))]) hx hb dX12_bestDraw_150 hl (k := 7) rfl rfl (by decide) rfl (fun ls hl => ?_)
                refine lv_goto (tgt := 58) hx hb dX12_bestDraw_153 (by decide) ?_
                exact ih (k + 1) (by omega) _ _ _ (by simp only [LX12_bestDraw_58_S, LX12_bestDraw_58_6, LX12_bestDraw_58_5, xDr_s, if_neg c_20, if_neg c_31, if_neg c_88, if_neg c_105, if_neg c_113]; exact hW) (lv_sub hl [4, 5, 6, 7, 2, 1, 0] (by simp only [LX12_bestDraw_58_S, LX12_bestDraw_58_6, LX12_bestDraw_58_5, xDr_s, if_neg c_20, if_neg c_31, if_neg c_88, if_neg c_105, if_neg c_113]; rfl))
      exact loop1 801 0 (by omega) _ _ _ hW (lv_sub hl [4, 5, 6, 3, 2, 1, 0] rfl)
    · skip
      refine q_ldc hC nX12_229 dX12_bestDraw_35 ?_
      exact hend _ _ _ _ _ _ (by simp only [sX12_bestDraw, if_neg c_20, if_pos c_31]) (by simp only [sX12_bestDraw_S, if_neg c_20, if_pos c_31]) hW dX12_bestDraw_37
  · skip
    refine q_ldc hC nX12_126 dX12_bestDraw_23 ?_
    exact hend _ _ _ _ _ _ (by simp only [sX12_bestDraw, if_pos c_20]) (by simp only [sX12_bestDraw_S, if_pos c_20]) hW dX12_bestDraw_25
