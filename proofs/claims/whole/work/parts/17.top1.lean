abbrev CW (cc : Nat → ClassId) (h : Nat) (ad a2 : Nat → Nat) (S S2 : St) : va_W := [(h, .inr (11, [.ref (ad 0), .ref (a2 0)]))] ++ LW cc ad S ++ LW cc a2 S2
theorem hasSpan_1 (S : St) (j : Nat) (hI : Inv S) (hj : j < cN S) : sX3_hasSpan S (nI j) = nI 1 := by
  obtain ⟨⟨h1, b1, b2⟩, -⟩ := hI
  unfold sX3_hasSpan
  rw [h1, if_neg (nI_pos (by omega)), if_neg (nI_ge (by omega) (by omega))]
  rfl
def sX11_reset (S S2 : St) (x : Int32) : Int32 := (if (sX11_isWithin x 100000 10000000) = 0 then (-1000002) else (S.1 0 1))
def sX11_reset_S (S S2 : St) (x : Int32) : St := (if (sX11_isWithin x 100000 10000000) = 0 then S else (sX3_begin_S S x))
set_option maxHeartbeats 4000000 in
set_option maxRecDepth 100000 in
theorem c_X11_reset (l : Launch) (D : va_G) (cc : Nat → ClassId) (h : Nat) (ad a2 : Nat → Nat) (S S2 : St) (x : Int32) : CtI l D cc yX11_reset cX11_reset 3 .int 3 [.ref h, .int x] (CW cc h ad a2 S S2) (sX11_reset S S2 x) (CW cc h ad a2 (sX11_reset_S S S2 x) S2) := by
  refine CtI.of (plainFor_of_name (by decide +kernel)) rfl (Nat.le_of_ble_eq_true rfl) ?_
  intro p e s m args below meth c A Q hC hW hend ls hl
  obtain ⟨⟨hx, hb, hml, hown, hts⟩, hNW⟩ := id hC
  unfold CW at hW hend
  have hl : lv_has ls 3 [(0, .ref h), (1, .int x)] := hl
  refine lv_iload_n hx hb dX11_reset_0 rfl (lv_at hl 1 rfl) ?_
  refine q_ldc hC nX11_21 dX11_reset_1 ?_
  refine q_ldc hC nX11_22 dX11_reset_3 ?_
  refine q_SI hC hW (c_X11_isWithin l D cc _ x 100000 10000000) mX11_23 (by decide) rfl hl.1 rfl (Nat.le_of_ble_eq_true rfl) (by decide) dX11_reset_5 (fun H locs hW => ?_)
  refine lv_if_ne (tgt := 14) hx hb dX11_reset_8 (by decide) (fun c_8 => ?_) (fun c_8 => ?_)
  · skip
    refine lv_aload_n hx hb dX11_reset_14 rfl (lv_at hl 0 rfl) ?_
    refine q_get hC hW kX11_12 0 (ap_g1 (ap_g1 rfl)) (v := .ref (ad 0)) rfl dX11_reset_15 ?_
    refine q_get hC hW kX11_28 (1 + 0) (ap_g1 (ap_g2 rfl (Lg0 cc ad S))) (v := .int (S.1 0 1)) rfl dX11_reset_18 ?_
    refine lv_istore_n (lv' := [(2, .int (S.1 0 1)), (0, .ref h), (1, .int x)]) hx hb dX11_reset_21 rfl hl (by decide) rfl (fun ls hl => ?_)
    refine lv_aload_n hx hb dX11_reset_22 rfl (lv_at hl 1 rfl) ?_
    refine q_get hC hW kX11_12 0 (ap_g1 (ap_g1 rfl)) (v := .ref (ad 0)) rfl dX11_reset_23 ?_
    refine lv_iload_n hx hb dX11_reset_26 rfl (lv_at hl 2 rfl) ?_
    refine q_VV hC hW (CtV.lift (c_X3_begin l D cc ad S x) ([(h, .inr (11, [.ref (ad 0), .ref (a2 0)]))]) (LW cc a2 S2) rfl rfl) mX11_32 (1 + 0) (ap_g1 (ap_g2 rfl (Lg0 cc ad S))) rfl (by decide) rfl hl.1 rfl (Nat.le_of_ble_eq_true rfl) (by decide) dX11_reset_27 (fun H locs hW => ?_)
    refine lv_iload_n hx hb dX11_reset_30 rfl (lv_at hl 0 rfl) ?_
    exact hend _ _ _ _ _ _ (by simp only [sX11_reset, if_neg c_8]) (by simp only [sX11_reset_S, if_neg c_8]) hW dX11_reset_31
  · skip
    refine q_ldc hC nX11_27 dX11_reset_11 ?_
    exact hend _ _ _ _ _ _ (by simp only [sX11_reset, if_pos c_8]) (by simp only [sX11_reset_S, if_pos c_8]) hW dX11_reset_13
def sX11_addSpan (S S2 : St) (x : Int32) : Int32 := (if (sX11_isWithin x 100000 10000000) = 0 then (-1000002) else (if (S.1 0 1) = 0 then (sX3_append S x (cN S)) else (-1000003)))
def sX11_addSpan_S (S S2 : St) (x : Int32) : St := (if (sX11_isWithin x 100000 10000000) = 0 then S else (if (S.1 0 1) = 0 then (sX3_append_S S x (cN S)) else S))
set_option maxHeartbeats 4000000 in
set_option maxRecDepth 100000 in
theorem c_X11_addSpan (l : Launch) (D : va_G) (cc : Nat → ClassId) (h : Nat) (ad a2 : Nat → Nat) (S S2 : St) (x : Int32) (hI : Inv S) : CtI l D cc yX11_addSpan cX11_addSpan 2 .int 2 [.ref h, .int x] (CW cc h ad a2 S S2) (sX11_addSpan S S2 x) (CW cc h ad a2 (sX11_addSpan_S S S2 x) S2) := by
  refine CtI.of (plainFor_of_name (by decide +kernel)) rfl (Nat.le_of_ble_eq_true rfl) ?_
  intro p e s m args below meth c A Q hC hW hend ls hl
  obtain ⟨⟨hx, hb, hml, hown, hts⟩, hNW⟩ := id hC
  unfold CW at hW hend
  have hl : lv_has ls 2 [(0, .ref h), (1, .int x)] := hl
  obtain ⟨⟨-, hb1_hI, hb2_hI⟩, ⟨-, hq_hI⟩, ⟨-, hm_hI⟩, ⟨-, ho_hI⟩, ⟨-, hc_hI⟩⟩ := id hI
  refine lv_iload_n hx hb dX11_addSpan_0 rfl (lv_at hl 1 rfl) ?_
  refine q_ldc hC nX11_21 dX11_addSpan_1 ?_
  refine q_ldc hC nX11_22 dX11_addSpan_3 ?_
  refine q_SI hC hW (c_X11_isWithin l D cc _ x 100000 10000000) mX11_23 (by decide) rfl hl.1 rfl (Nat.le_of_ble_eq_true rfl) (by decide) dX11_addSpan_5 (fun H locs hW => ?_)
  refine lv_if_ne (tgt := 14) hx hb dX11_addSpan_8 (by decide) (fun c_8 => ?_) (fun c_8 => ?_)
  · skip
    refine lv_aload_n hx hb dX11_addSpan_14 rfl (lv_at hl 0 rfl) ?_
    refine q_get hC hW kX11_12 0 (ap_g1 (ap_g1 rfl)) (v := .ref (ad 0)) rfl dX11_addSpan_15 ?_
    refine q_get hC hW kX11_28 (1 + 0) (ap_g1 (ap_g2 rfl (Lg0 cc ad S))) (v := .int (S.1 0 1)) rfl dX11_addSpan_18 ?_
    refine lv_if_eq (tgt := 27) hx hb dX11_addSpan_21 (by decide) (fun c_21 => ?_) (fun c_21 => ?_)
    · skip
      refine lv_aload_n hx hb dX11_addSpan_27 rfl (lv_at hl 0 rfl) ?_
      refine q_get hC hW kX11_12 0 (ap_g1 (ap_g1 rfl)) (v := .ref (ad 0)) rfl dX11_addSpan_28 ?_
      refine lv_iload_n hx hb dX11_addSpan_31 rfl (lv_at hl 1 rfl) ?_
      refine q_VI hC hW (CtI.lift (c_X3_append l D cc ad S x (cN S) hI.1.1 (by omega)) ([(h, .inr (11, [.ref (ad 0), .ref (a2 0)]))]) (LW cc a2 S2) rfl rfl) mX11_37 (1 + 0) (ap_g1 (ap_g2 rfl (Lg0 cc ad S))) rfl (by decide) rfl hl.1 rfl (Nat.le_of_ble_eq_true rfl) (by decide) dX11_addSpan_32 (fun H locs hW => ?_)
      exact hend _ _ _ _ _ _ (by simp only [sX11_addSpan, if_neg c_8, if_pos c_21]) (by simp only [sX11_addSpan_S, if_neg c_8, if_pos c_21]) hW dX11_addSpan_35
    · skip
      refine q_ldc hC nX11_36 dX11_addSpan_24 ?_
      exact hend _ _ _ _ _ _ (by simp only [sX11_addSpan, if_neg c_8, if_neg c_21]) (by simp only [sX11_addSpan_S, if_neg c_8, if_neg c_21]) hW dX11_addSpan_26
  · skip
    refine q_ldc hC nX11_27 dX11_addSpan_11 ?_
    exact hend _ _ _ _ _ _ (by simp only [sX11_addSpan, if_pos c_8]) (by simp only [sX11_addSpan_S, if_pos c_8]) hW dX11_addSpan_13
def sX11_setDancer (S S2 : St) (j : Nat) (x2 : Int32) (x3 : Int32) (x4 : Int32) (x5 : Int32) (x6 : Int32) : Int32 := (if (sX11_isWithin x2 2 100000) = 0 then (-1000002) else (if (sX11_isWithin x3 0 1000000) = 0 then (-1000002) else (if (sX11_isWithin x4 1 100000) = 0 then (-1000002) else (if (sX11_isWithin x5 (-1000) 1000) = 0 then (-1000002) else (if (sX11_isWithin x6 (-1000) 1000) = 0 then (-1000002) else (if (S.1 0 1) = 0 then (sX8_equip (sX0_begin_S S j x2 x3 x4 x5 x6) j 1) else (-1000003)))))))
def sX11_setDancer_S (S S2 : St) (j : Nat) (x2 : Int32) (x3 : Int32) (x4 : Int32) (x5 : Int32) (x6 : Int32) : St := (if (sX11_isWithin x2 2 100000) = 0 then S else (if (sX11_isWithin x3 0 1000000) = 0 then S else (if (sX11_isWithin x4 1 100000) = 0 then S else (if (sX11_isWithin x5 (-1000) 1000) = 0 then S else (if (sX11_isWithin x6 (-1000) 1000) = 0 then S else (if (S.1 0 1) = 0 then (sX8_equip_S (sX0_begin_S S j x2 x3 x4 x5 x6) j 1) else S))))))
set_option maxHeartbeats 4000000 in
set_option maxRecDepth 100000 in
theorem c_X11_setDancer (l : Launch) (D : va_G) (cc : Nat → ClassId) (h : Nat) (ad a2 : Nat → Nat) (S S2 : St) (j : Nat) (x2 : Int32) (x3 : Int32) (x4 : Int32) (x5 : Int32) (x6 : Int32) (hI : Inv S) (hj : j < cN S) : CtI l D cc yX11_setDancer cX11_setDancer 7 .int 2 [.ref h, .int (nI j), .int x2, .int x3, .int x4, .int x5, .int x6] (CW cc h ad a2 S S2) (sX11_setDancer S S2 j x2 x3 x4 x5 x6) (CW cc h ad a2 (sX11_setDancer_S S S2 j x2 x3 x4 x5 x6) S2) := by
  refine CtI.of (plainFor_of_name (by decide +kernel)) rfl (Nat.le_of_ble_eq_true rfl) ?_
  intro p e s m args below meth c A Q hC hW hend ls hl
  obtain ⟨⟨hx, hb, hml, hown, hts⟩, hNW⟩ := id hC
  unfold CW at hW hend
  have hl : lv_has ls 7 [(0, .ref h), (1, .int (nI j)), (2, .int x2), (3, .int x3), (4, .int x4), (5, .int x5), (6, .int x6)] := hl
  obtain ⟨⟨-, hb1_hI, hb2_hI⟩, ⟨-, hq_hI⟩, ⟨-, hm_hI⟩, ⟨-, ho_hI⟩, ⟨-, hc_hI⟩⟩ := id hI
  refine lv_aload_n hx hb dX11_setDancer_0 rfl (lv_at hl 0 rfl) ?_
  refine q_get hC hW kX11_12 0 (ap_g1 (ap_g1 rfl)) (v := .ref (ad 0)) rfl dX11_setDancer_1 ?_
  refine lv_iload_n hx hb dX11_setDancer_4 rfl (lv_at hl 1 rfl) ?_
  refine q_VI hC hW (CtI.lift (c_X3_hasSpan l D cc ad S (nI j)) ([(h, .inr (11, [.ref (ad 0), .ref (a2 0)]))]) (LW cc a2 S2) rfl rfl) mX11_41 (1 + 0) (ap_g1 (ap_g2 rfl (Lg0 cc ad S))) rfl (by decide) rfl hl.1 rfl (Nat.le_of_ble_eq_true rfl) (by decide) dX11_setDancer_5 (fun H locs hW => ?_)
  refine q_ri (v := nI 1) (hasSpan_1 S j hI hj) ?_
  refine q_if_ne_n (tgt := 14) hx hb (a := 1) rfl (by omega) dX11_setDancer_8 (by decide) (fun c_8 => ?_) (fun c_8 => by exfalso; omega)
  refine lv_iload_n hx hb dX11_setDancer_14 rfl (lv_at hl 2 rfl) ?_
  refine lv_iconst (v := 2) hx hb dX11_setDancer_15 (by decide) ?_
  refine q_ldc hC nX11_21 dX11_setDancer_16 ?_
  refine q_SI hC hW (c_X11_isWithin l D cc _ x2 2 100000) mX11_23 (by decide) rfl hl.1 rfl (Nat.le_of_ble_eq_true rfl) (by decide) dX11_setDancer_18 (fun H locs hW => ?_)
  refine lv_if_eq (tgt := 73) hx hb dX11_setDancer_21 (by decide) (fun c_21 => ?_) (fun c_21 => ?_)
  · skip
    refine q_ldc hC nX11_27 dX11_setDancer_73 ?_
    exact hend _ _ _ _ _ _ (by simp only [sX11_setDancer, if_pos c_21]) (by simp only [sX11_setDancer_S, if_pos c_21]) hW dX11_setDancer_75
  · skip
    refine lv_iload_n hx hb dX11_setDancer_24 rfl (lv_at hl 3 rfl) ?_
    refine lv_iconst (v := 0) hx hb dX11_setDancer_25 (by decide) ?_
    refine q_ldc hC nX11_46 dX11_setDancer_26 ?_
    refine q_SI hC hW (c_X11_isWithin l D cc _ x3 0 1000000) mX11_23 (by decide) rfl hl.1 rfl (Nat.le_of_ble_eq_true rfl) (by decide) dX11_setDancer_28 (fun H locs hW => ?_)
    refine lv_if_eq (tgt := 73) hx hb dX11_setDancer_31 (by decide) (fun c_31 => ?_) (fun c_31 => ?_)
    · skip
      refine q_ldc hC nX11_27 dX11_setDancer_73 ?_
      exact hend _ _ _ _ _ _ (by simp only [sX11_setDancer, if_neg c_21, if_pos c_31]) (by simp only [sX11_setDancer_S, if_neg c_21, if_pos c_31]) hW dX11_setDancer_75
    · skip
      refine lv_iload hx hb dX11_setDancer_34 (lv_at hl 4 rfl) ?_
      refine lv_iconst (v := 1) hx hb dX11_setDancer_36 (by decide) ?_
      refine q_ldc hC nX11_21 dX11_setDancer_37 ?_
      refine q_SI hC hW (c_X11_isWithin l D cc _ x4 1 100000) mX11_23 (by decide) rfl hl.1 rfl (Nat.le_of_ble_eq_true rfl) (by decide) dX11_setDancer_39 (fun H locs hW => ?_)
      refine lv_if_eq (tgt := 73) hx hb dX11_setDancer_42 (by decide) (fun c_42 => ?_) (fun c_42 => ?_)
      · skip
        refine q_ldc hC nX11_27 dX11_setDancer_73 ?_
        exact hend _ _ _ _ _ _ (by simp only [sX11_setDancer, if_neg c_21, if_neg c_31, if_pos c_42]) (by simp only [sX11_setDancer_S, if_neg c_21, if_neg c_31, if_pos c_42]) hW dX11_setDancer_75
      · skip
        refine lv_iload hx hb dX11_setDancer_45 (lv_at hl 5 rfl) ?_
        refine lv_sipush (v := (-1000)) hx hb dX11_setDancer_47 (by decide) ?_
        refine lv_sipush (v := 1000) hx hb dX11_setDancer_50 (by decide) ?_
        refine q_SI hC hW (c_X11_isWithin l D cc _ x5 (-1000) 1000) mX11_23 (by decide) rfl hl.1 rfl (Nat.le_of_ble_eq_true rfl) (by decide) dX11_setDancer_53 (fun H locs hW => ?_)
        refine lv_if_eq (tgt := 73) hx hb dX11_setDancer_56 (by decide) (fun c_56 => ?_) (fun c_56 => ?_)
        · skip
          refine q_ldc hC nX11_27 dX11_setDancer_73 ?_
          exact hend _ _ _ _ _ _ (by simp only [sX11_setDancer, if_neg c_21, if_neg c_31, if_neg c_42, if_pos c_56]) (by simp only [sX11_setDancer_S, if_neg c_21, if_neg c_31, if_neg c_42, if_pos c_56]) hW dX11_setDancer_75
        · skip
          refine lv_iload hx hb dX11_setDancer_59 (lv_at hl 6 rfl) ?_
          refine lv_sipush (v := (-1000)) hx hb dX11_setDancer_61 (by decide) ?_
          refine lv_sipush (v := 1000) hx hb dX11_setDancer_64 (by decide) ?_
          refine q_SI hC hW (c_X11_isWithin l D cc _ x6 (-1000) 1000) mX11_23 (by decide) rfl hl.1 rfl (Nat.le_of_ble_eq_true rfl) (by decide) dX11_setDancer_67 (fun H locs hW => ?_)
          refine lv_if_ne (tgt := 76) hx hb dX11_setDancer_70 (by decide) (fun c_70 => ?_) (fun c_70 => ?_)
          · skip
            refine lv_aload_n hx hb dX11_setDancer_76 rfl (lv_at hl 0 rfl) ?_
            refine q_get hC hW kX11_12 0 (ap_g1 (ap_g1 rfl)) (v := .ref (ad 0)) rfl dX11_setDancer_77 ?_
            refine q_get hC hW kX11_28 (1 + 0) (ap_g1 (ap_g2 rfl (Lg0 cc ad S))) (v := .int (S.1 0 1)) rfl dX11_setDancer_80 ?_
            refine lv_if_eq (tgt := 89) hx hb dX11_setDancer_83 (by decide) (fun c_83 => ?_) (fun c_83 => ?_)
            · skip
              refine lv_aload_n hx hb dX11_setDancer_89 rfl (lv_at hl 0 rfl) ?_
              refine q_get hC hW kX11_12 0 (ap_g1 (ap_g1 rfl)) (v := .ref (ad 0)) rfl dX11_setDancer_90 ?_
              refine q_get hC hW kX11_47 (1 + 0) (ap_g1 (ap_g2 rfl (Lg0 cc ad S))) (v := .ref (ad 12)) rfl dX11_setDancer_93 ?_
              refine lv_iload_n hx hb dX11_setDancer_96 rfl (lv_at hl 1 rfl) ?_
              refine q_aald hC hW (1 + 12) 3 (ap_g1 (ap_g2 rfl (Lg12 cc ad S))) rfl (v := ad (j + 15)) j rfl (by omega) (by decide) rfl dX11_setDancer_97 ?_
              refine q_get hC hW kX11_51 (1 + (j + 15)) (ap_g1 (ap_g2 rfl (Lg_f8 cc ad S j (by omega)))) (v := .ref (ad (j + 21))) rfl dX11_setDancer_98 ?_
              refine lv_iload_n hx hb dX11_setDancer_101 rfl (lv_at hl 2 rfl) ?_
              refine lv_iload_n hx hb dX11_setDancer_102 rfl (lv_at hl 3 rfl) ?_
              refine lv_iload hx hb dX11_setDancer_103 (lv_at hl 4 rfl) ?_
              refine lv_iload hx hb dX11_setDancer_105 (lv_at hl 5 rfl) ?_
              refine lv_iload hx hb dX11_setDancer_107 (lv_at hl 6 rfl) ?_
              refine q_VV hC hW (CtV.lift (c_X0_begin l D cc ad S j x2 x3 x4 x5 x6 (by omega)) ([(h, .inr (11, [.ref (ad 0), .ref (a2 0)]))]) (LW cc a2 S2) rfl rfl) mX11_57 (1 + (j + 21)) (ap_g1 (ap_g2 rfl (Lg_f0 cc ad S j (by omega)))) rfl (by decide) rfl hl.1 rfl (Nat.le_of_ble_eq_true rfl) (by decide) dX11_setDancer_109 (fun H locs hW => ?_)
              refine lv_aload_n hx hb dX11_setDancer_112 rfl (lv_at hl 0 rfl) ?_
              refine q_get hC hW kX11_12 0 (ap_g1 (ap_g1 rfl)) (v := .ref (ad 0)) rfl dX11_setDancer_113 ?_
              refine q_get hC hW kX11_47 (1 + 0) (ap_g1 (ap_g2 rfl (Lg0 cc ad (sX0_begin_S S j x2 x3 x4 x5 x6)))) (v := .ref (ad 12)) rfl dX11_setDancer_116 ?_
              refine lv_iload_n hx hb dX11_setDancer_119 rfl (lv_at hl 1 rfl) ?_
              refine q_aald hC hW (1 + 12) 3 (ap_g1 (ap_g2 rfl (Lg12 cc ad (sX0_begin_S S j x2 x3 x4 x5 x6)))) rfl (v := ad (j + 15)) j rfl (by omega) (by decide) rfl dX11_setDancer_120 ?_
              refine lv_iconst (v := 1) hx hb dX11_setDancer_121 (by decide) ?_
              refine q_VI hC hW (CtI.lift (c_X8_equip l D cc ad (sX0_begin_S S j x2 x3 x4 x5 x6) j 1 (by omega)) ([(h, .inr (11, [.ref (ad 0), .ref (a2 0)]))]) (LW cc a2 S2) rfl rfl) mX11_62 (1 + (j + 15)) (ap_g1 (ap_g2 rfl (Lg_f8 cc ad (sX0_begin_S S j x2 x3 x4 x5 x6) j (by omega)))) rfl (by decide) rfl hl.1 rfl (Nat.le_of_ble_eq_true rfl) (by decide) dX11_setDancer_122 (fun H locs hW => ?_)
              exact hend _ _ _ _ _ _ (by simp only [sX11_setDancer, if_neg c_21, if_neg c_31, if_neg c_42, if_neg c_56, if_neg c_70, if_pos c_83]) (by simp only [sX11_setDancer_S, if_neg c_21, if_neg c_31, if_neg c_42, if_neg c_56, if_neg c_70, if_pos c_83]) hW dX11_setDancer_125
            · skip
              refine q_ldc hC nX11_36 dX11_setDancer_86 ?_
              exact hend _ _ _ _ _ _ (by simp only [sX11_setDancer, if_neg c_21, if_neg c_31, if_neg c_42, if_neg c_56, if_neg c_70, if_neg c_83]) (by simp only [sX11_setDancer_S, if_neg c_21, if_neg c_31, if_neg c_42, if_neg c_56, if_neg c_70, if_neg c_83]) hW dX11_setDancer_88
          · skip
            refine q_ldc hC nX11_27 dX11_setDancer_73 ?_
            exact hend _ _ _ _ _ _ (by simp only [sX11_setDancer, if_neg c_21, if_neg c_31, if_neg c_42, if_neg c_56, if_pos c_70]) (by simp only [sX11_setDancer_S, if_neg c_21, if_neg c_31, if_neg c_42, if_neg c_56, if_pos c_70]) hW dX11_setDancer_75
def sX11_setDancer_no (S S2 : St) (x : Int32) (x2 : Int32) (x3 : Int32) (x4 : Int32) (x5 : Int32) (x6 : Int32) : Int32 := (-1000001)
set_option maxHeartbeats 4000000 in
set_option maxRecDepth 100000 in
theorem c_X11_setDancer_no (l : Launch) (D : va_G) (cc : Nat → ClassId) (h : Nat) (ad a2 : Nat → Nat) (S S2 : St) (x : Int32) (x2 : Int32) (x3 : Int32) (x4 : Int32) (x5 : Int32) (x6 : Int32) (hno : sX3_hasSpan S x = 0) : CtI l D cc yX11_setDancer cX11_setDancer 7 .int 2 [.ref h, .int x, .int x2, .int x3, .int x4, .int x5, .int x6] (CW cc h ad a2 S S2) (sX11_setDancer_no S S2 x x2 x3 x4 x5 x6) (CW cc h ad a2 S S2) := by
  refine CtI.of (plainFor_of_name (by decide +kernel)) rfl (Nat.le_of_ble_eq_true rfl) ?_
  intro p e s m args below meth c A Q hC hW hend ls hl
  obtain ⟨⟨hx, hb, hml, hown, hts⟩, hNW⟩ := id hC
  unfold CW at hW hend
  have hl : lv_has ls 7 [(0, .ref h), (1, .int x), (2, .int x2), (3, .int x3), (4, .int x4), (5, .int x5), (6, .int x6)] := hl
  refine lv_aload_n hx hb dX11_setDancer_0 rfl (lv_at hl 0 rfl) ?_
  refine q_get hC hW kX11_12 0 (ap_g1 (ap_g1 rfl)) (v := .ref (ad 0)) rfl dX11_setDancer_1 ?_
  refine lv_iload_n hx hb dX11_setDancer_4 rfl (lv_at hl 1 rfl) ?_
  refine q_VI hC hW (CtI.lift (c_X3_hasSpan l D cc ad S x) ([(h, .inr (11, [.ref (ad 0), .ref (a2 0)]))]) (LW cc a2 S2) rfl rfl) mX11_41 (1 + 0) (ap_g1 (ap_g2 rfl (Lg0 cc ad S))) rfl (by decide) rfl hl.1 rfl (Nat.le_of_ble_eq_true rfl) (by decide) dX11_setDancer_5 (fun H locs hW => ?_)
  refine q_ri (v := nI 0) hno ?_
  refine q_if_ne_n (tgt := 14) hx hb (a := 0) rfl (by omega) dX11_setDancer_8 (by decide) (fun c_8 => by exfalso; omega) (fun c_8 => ?_)
  refine q_ldc hC nX11_45 dX11_setDancer_11 ?_
  exact hend _ _ _ _ _ _ (by unfold sX11_setDancer_no; rfl) rfl hW dX11_setDancer_13
def sX11_setLoadCell (S S2 : St) (j : Nat) (x2 : Int32) (x3 : Int32) : Int32 := (if (sX11_isWithin x2 0 1000000) = 0 then (-1000002) else (if (sX11_isWithin x3 (-10000) 10000) = 0 then (-1000002) else (if (S.1 0 1) = 0 then (sX8_equip (sX4_begin_S S j x2 x3) j 2) else (-1000003))))
def sX11_setLoadCell_S (S S2 : St) (j : Nat) (x2 : Int32) (x3 : Int32) : St := (if (sX11_isWithin x2 0 1000000) = 0 then S else (if (sX11_isWithin x3 (-10000) 10000) = 0 then S else (if (S.1 0 1) = 0 then (sX8_equip_S (sX4_begin_S S j x2 x3) j 2) else S)))
set_option maxHeartbeats 4000000 in
set_option maxRecDepth 100000 in
theorem c_X11_setLoadCell (l : Launch) (D : va_G) (cc : Nat → ClassId) (h : Nat) (ad a2 : Nat → Nat) (S S2 : St) (j : Nat) (x2 : Int32) (x3 : Int32) (hI : Inv S) (hj : j < cN S) : CtI l D cc yX11_setLoadCell cX11_setLoadCell 4 .int 2 [.ref h, .int (nI j), .int x2, .int x3] (CW cc h ad a2 S S2) (sX11_setLoadCell S S2 j x2 x3) (CW cc h ad a2 (sX11_setLoadCell_S S S2 j x2 x3) S2) := by
  refine CtI.of (plainFor_of_name (by decide +kernel)) rfl (Nat.le_of_ble_eq_true rfl) ?_
  intro p e s m args below meth c A Q hC hW hend ls hl
  obtain ⟨⟨hx, hb, hml, hown, hts⟩, hNW⟩ := id hC
  unfold CW at hW hend
  have hl : lv_has ls 4 [(0, .ref h), (1, .int (nI j)), (2, .int x2), (3, .int x3)] := hl
  obtain ⟨⟨-, hb1_hI, hb2_hI⟩, ⟨-, hq_hI⟩, ⟨-, hm_hI⟩, ⟨-, ho_hI⟩, ⟨-, hc_hI⟩⟩ := id hI
  refine lv_aload_n hx hb dX11_setLoadCell_0 rfl (lv_at hl 0 rfl) ?_
  refine q_get hC hW kX11_12 0 (ap_g1 (ap_g1 rfl)) (v := .ref (ad 0)) rfl dX11_setLoadCell_1 ?_
  refine lv_iload_n hx hb dX11_setLoadCell_4 rfl (lv_at hl 1 rfl) ?_
  refine q_VI hC hW (CtI.lift (c_X3_hasSpan l D cc ad S (nI j)) ([(h, .inr (11, [.ref (ad 0), .ref (a2 0)]))]) (LW cc a2 S2) rfl rfl) mX11_41 (1 + 0) (ap_g1 (ap_g2 rfl (Lg0 cc ad S))) rfl (by decide) rfl hl.1 rfl (Nat.le_of_ble_eq_true rfl) (by decide) dX11_setLoadCell_5 (fun H locs hW => ?_)
  refine q_ri (v := nI 1) (hasSpan_1 S j hI hj) ?_
  refine q_if_ne_n (tgt := 14) hx hb (a := 1) rfl (by omega) dX11_setLoadCell_8 (by decide) (fun c_8 => ?_) (fun c_8 => by exfalso; omega)
  refine lv_iload_n hx hb dX11_setLoadCell_14 rfl (lv_at hl 2 rfl) ?_
  refine lv_iconst (v := 0) hx hb dX11_setLoadCell_15 (by decide) ?_
  refine q_ldc hC nX11_46 dX11_setLoadCell_16 ?_
  refine q_SI hC hW (c_X11_isWithin l D cc _ x2 0 1000000) mX11_23 (by decide) rfl hl.1 rfl (Nat.le_of_ble_eq_true rfl) (by decide) dX11_setLoadCell_18 (fun H locs hW => ?_)
  refine lv_if_eq (tgt := 37) hx hb dX11_setLoadCell_21 (by decide) (fun c_21 => ?_) (fun c_21 => ?_)
  · skip
    refine q_ldc hC nX11_27 dX11_setLoadCell_37 ?_
    exact hend _ _ _ _ _ _ (by simp only [sX11_setLoadCell, if_pos c_21]) (by simp only [sX11_setLoadCell_S, if_pos c_21]) hW dX11_setLoadCell_39
  · skip
    refine lv_iload_n hx hb dX11_setLoadCell_24 rfl (lv_at hl 3 rfl) ?_
    refine lv_sipush (v := (-10000)) hx hb dX11_setLoadCell_25 (by decide) ?_
    refine lv_sipush (v := 10000) hx hb dX11_setLoadCell_28 (by decide) ?_
    refine q_SI hC hW (c_X11_isWithin l D cc _ x3 (-10000) 10000) mX11_23 (by decide) rfl hl.1 rfl (Nat.le_of_ble_eq_true rfl) (by decide) dX11_setLoadCell_31 (fun H locs hW => ?_)
    refine lv_if_ne (tgt := 40) hx hb dX11_setLoadCell_34 (by decide) (fun c_34 => ?_) (fun c_34 => ?_)
    · skip
      refine lv_aload_n hx hb dX11_setLoadCell_40 rfl (lv_at hl 0 rfl) ?_
      refine q_get hC hW kX11_12 0 (ap_g1 (ap_g1 rfl)) (v := .ref (ad 0)) rfl dX11_setLoadCell_41 ?_
      refine q_get hC hW kX11_28 (1 + 0) (ap_g1 (ap_g2 rfl (Lg0 cc ad S))) (v := .int (S.1 0 1)) rfl dX11_setLoadCell_44 ?_
      refine lv_if_eq (tgt := 53) hx hb dX11_setLoadCell_47 (by decide) (fun c_47 => ?_) (fun c_47 => ?_)
      · skip
        refine lv_aload_n hx hb dX11_setLoadCell_53 rfl (lv_at hl 0 rfl) ?_
        refine q_get hC hW kX11_12 0 (ap_g1 (ap_g1 rfl)) (v := .ref (ad 0)) rfl dX11_setLoadCell_54 ?_
        refine q_get hC hW kX11_47 (1 + 0) (ap_g1 (ap_g2 rfl (Lg0 cc ad S))) (v := .ref (ad 12)) rfl dX11_setLoadCell_57 ?_
        refine lv_iload_n hx hb dX11_setLoadCell_60 rfl (lv_at hl 1 rfl) ?_
        refine q_aald hC hW (1 + 12) 3 (ap_g1 (ap_g2 rfl (Lg12 cc ad S))) rfl (v := ad (j + 15)) j rfl (by omega) (by decide) rfl dX11_setLoadCell_61 ?_
        refine q_get hC hW kX11_65 (1 + (j + 15)) (ap_g1 (ap_g2 rfl (Lg_f8 cc ad S j (by omega)))) (v := .ref (ad (j + 27))) rfl dX11_setLoadCell_62 ?_
        refine lv_iload_n hx hb dX11_setLoadCell_65 rfl (lv_at hl 2 rfl) ?_
        refine lv_iload_n hx hb dX11_setLoadCell_66 rfl (lv_at hl 3 rfl) ?_
        refine q_VV hC hW (CtV.lift (c_X4_begin l D cc ad S j x2 x3 (by omega)) ([(h, .inr (11, [.ref (ad 0), .ref (a2 0)]))]) (LW cc a2 S2) rfl rfl) mX11_69 (1 + (j + 27)) (ap_g1 (ap_g2 rfl (Lg_f4 cc ad S j (by omega)))) rfl (by decide) rfl hl.1 rfl (Nat.le_of_ble_eq_true rfl) (by decide) dX11_setLoadCell_67 (fun H locs hW => ?_)
        refine lv_aload_n hx hb dX11_setLoadCell_70 rfl (lv_at hl 0 rfl) ?_
        refine q_get hC hW kX11_12 0 (ap_g1 (ap_g1 rfl)) (v := .ref (ad 0)) rfl dX11_setLoadCell_71 ?_
        refine q_get hC hW kX11_47 (1 + 0) (ap_g1 (ap_g2 rfl (Lg0 cc ad (sX4_begin_S S j x2 x3)))) (v := .ref (ad 12)) rfl dX11_setLoadCell_74 ?_
        refine lv_iload_n hx hb dX11_setLoadCell_77 rfl (lv_at hl 1 rfl) ?_
        refine q_aald hC hW (1 + 12) 3 (ap_g1 (ap_g2 rfl (Lg12 cc ad (sX4_begin_S S j x2 x3)))) rfl (v := ad (j + 15)) j rfl (by omega) (by decide) rfl dX11_setLoadCell_78 ?_
        refine lv_iconst (v := 2) hx hb dX11_setLoadCell_79 (by decide) ?_
        refine q_VI hC hW (CtI.lift (c_X8_equip l D cc ad (sX4_begin_S S j x2 x3) j 2 (by omega)) ([(h, .inr (11, [.ref (ad 0), .ref (a2 0)]))]) (LW cc a2 S2) rfl rfl) mX11_62 (1 + (j + 15)) (ap_g1 (ap_g2 rfl (Lg_f8 cc ad (sX4_begin_S S j x2 x3) j (by omega)))) rfl (by decide) rfl hl.1 rfl (Nat.le_of_ble_eq_true rfl) (by decide) dX11_setLoadCell_80 (fun H locs hW => ?_)
        exact hend _ _ _ _ _ _ (by simp only [sX11_setLoadCell, if_neg c_21, if_neg c_34, if_pos c_47]) (by simp only [sX11_setLoadCell_S, if_neg c_21, if_neg c_34, if_pos c_47]) hW dX11_setLoadCell_83
      · skip
        refine q_ldc hC nX11_36 dX11_setLoadCell_50 ?_
        exact hend _ _ _ _ _ _ (by simp only [sX11_setLoadCell, if_neg c_21, if_neg c_34, if_neg c_47]) (by simp only [sX11_setLoadCell_S, if_neg c_21, if_neg c_34, if_neg c_47]) hW dX11_setLoadCell_52
    · skip
      refine q_ldc hC nX11_27 dX11_setLoadCell_37 ?_
      exact hend _ _ _ _ _ _ (by simp only [sX11_setLoadCell, if_neg c_21, if_pos c_34]) (by simp only [sX11_setLoadCell_S, if_neg c_21, if_pos c_34]) hW dX11_setLoadCell_39
def sX11_setLoadCell_no (S S2 : St) (x : Int32) (x2 : Int32) (x3 : Int32) : Int32 := (-1000001)
set_option maxHeartbeats 4000000 in
set_option maxRecDepth 100000 in
theorem c_X11_setLoadCell_no (l : Launch) (D : va_G) (cc : Nat → ClassId) (h : Nat) (ad a2 : Nat → Nat) (S S2 : St) (x : Int32) (x2 : Int32) (x3 : Int32) (hno : sX3_hasSpan S x = 0) : CtI l D cc yX11_setLoadCell cX11_setLoadCell 4 .int 2 [.ref h, .int x, .int x2, .int x3] (CW cc h ad a2 S S2) (sX11_setLoadCell_no S S2 x x2 x3) (CW cc h ad a2 S S2) := by
  refine CtI.of (plainFor_of_name (by decide +kernel)) rfl (Nat.le_of_ble_eq_true rfl) ?_
  intro p e s m args below meth c A Q hC hW hend ls hl
  obtain ⟨⟨hx, hb, hml, hown, hts⟩, hNW⟩ := id hC
  unfold CW at hW hend
  have hl : lv_has ls 4 [(0, .ref h), (1, .int x), (2, .int x2), (3, .int x3)] := hl
  refine lv_aload_n hx hb dX11_setLoadCell_0 rfl (lv_at hl 0 rfl) ?_
  refine q_get hC hW kX11_12 0 (ap_g1 (ap_g1 rfl)) (v := .ref (ad 0)) rfl dX11_setLoadCell_1 ?_
  refine lv_iload_n hx hb dX11_setLoadCell_4 rfl (lv_at hl 1 rfl) ?_
  refine q_VI hC hW (CtI.lift (c_X3_hasSpan l D cc ad S x) ([(h, .inr (11, [.ref (ad 0), .ref (a2 0)]))]) (LW cc a2 S2) rfl rfl) mX11_41 (1 + 0) (ap_g1 (ap_g2 rfl (Lg0 cc ad S))) rfl (by decide) rfl hl.1 rfl (Nat.le_of_ble_eq_true rfl) (by decide) dX11_setLoadCell_5 (fun H locs hW => ?_)
  refine q_ri (v := nI 0) hno ?_
  refine q_if_ne_n (tgt := 14) hx hb (a := 0) rfl (by omega) dX11_setLoadCell_8 (by decide) (fun c_8 => by exfalso; omega) (fun c_8 => ?_)
  refine q_ldc hC nX11_45 dX11_setLoadCell_11 ?_
  exact hend _ _ _ _ _ _ (by unfold sX11_setLoadCell_no; rfl) rfl hW dX11_setLoadCell_13
def sX11_setWeb (S S2 : St) (x : Int32) (y : Int32) : Int32 := (if (sX11_isWithin x 1000 10000000) = 0 then (-1000002) else (if (sX11_isWithin y 0 100000) = 0 then (-1000002) else (if (S.1 0 1) = 0 then (sX10_changeStiffness S x y) else (-1000003))))
def sX11_setWeb_S (S S2 : St) (x : Int32) (y : Int32) : St := (if (sX11_isWithin x 1000 10000000) = 0 then S else (if (sX11_isWithin y 0 100000) = 0 then S else (if (S.1 0 1) = 0 then (sX10_changeStiffness_S S x y) else S)))
set_option maxHeartbeats 4000000 in
set_option maxRecDepth 100000 in
theorem c_X11_setWeb (l : Launch) (D : va_G) (cc : Nat → ClassId) (h : Nat) (ad a2 : Nat → Nat) (S S2 : St) (x : Int32) (y : Int32) : CtI l D cc yX11_setWeb cX11_setWeb 3 .int 1 [.ref h, .int x, .int y] (CW cc h ad a2 S S2) (sX11_setWeb S S2 x y) (CW cc h ad a2 (sX11_setWeb_S S S2 x y) S2) := by
  refine CtI.of (plainFor_of_name (by decide +kernel)) rfl (Nat.le_of_ble_eq_true rfl) ?_
  intro p e s m args below meth c A Q hC hW hend ls hl
  obtain ⟨⟨hx, hb, hml, hown, hts⟩, hNW⟩ := id hC
  unfold CW at hW hend
  have hl : lv_has ls 3 [(0, .ref h), (1, .int x), (2, .int y)] := hl
  refine lv_iload_n hx hb dX11_setWeb_0 rfl (lv_at hl 1 rfl) ?_
  refine lv_sipush (v := 1000) hx hb dX11_setWeb_1 (by decide) ?_
  refine q_ldc hC nX11_22 dX11_setWeb_4 ?_
  refine q_SI hC hW (c_X11_isWithin l D cc _ x 1000 10000000) mX11_23 (by decide) rfl hl.1 rfl (Nat.le_of_ble_eq_true rfl) (by decide) dX11_setWeb_6 (fun H locs hW => ?_)
  refine lv_if_eq (tgt := 22) hx hb dX11_setWeb_9 (by decide) (fun c_9 => ?_) (fun c_9 => ?_)
  · skip
    refine q_ldc hC nX11_27 dX11_setWeb_22 ?_
    exact hend _ _ _ _ _ _ (by simp only [sX11_setWeb, if_pos c_9]) (by simp only [sX11_setWeb_S, if_pos c_9]) hW dX11_setWeb_24
  · skip
    refine lv_iload_n hx hb dX11_setWeb_12 rfl (lv_at hl 2 rfl) ?_
    refine lv_iconst (v := 0) hx hb dX11_setWeb_13 (by decide) ?_
    refine q_ldc hC nX11_21 dX11_setWeb_14 ?_
    refine q_SI hC hW (c_X11_isWithin l D cc _ y 0 100000) mX11_23 (by decide) rfl hl.1 rfl (Nat.le_of_ble_eq_true rfl) (by decide) dX11_setWeb_16 (fun H locs hW => ?_)
    refine lv_if_ne (tgt := 25) hx hb dX11_setWeb_19 (by decide) (fun c_19 => ?_) (fun c_19 => ?_)
    · skip
      refine lv_aload_n hx hb dX11_setWeb_25 rfl (lv_at hl 0 rfl) ?_
      refine q_get hC hW kX11_12 0 (ap_g1 (ap_g1 rfl)) (v := .ref (ad 0)) rfl dX11_setWeb_26 ?_
      refine q_get hC hW kX11_28 (1 + 0) (ap_g1 (ap_g2 rfl (Lg0 cc ad S))) (v := .int (S.1 0 1)) rfl dX11_setWeb_29 ?_
      refine lv_if_eq (tgt := 38) hx hb dX11_setWeb_32 (by decide) (fun c_32 => ?_) (fun c_32 => ?_)
      · skip
        refine lv_aload_n hx hb dX11_setWeb_38 rfl (lv_at hl 0 rfl) ?_
        refine q_get hC hW kX11_12 0 (ap_g1 (ap_g1 rfl)) (v := .ref (ad 0)) rfl dX11_setWeb_39 ?_
        refine q_get hC hW kX11_74 (1 + 0) (ap_g1 (ap_g2 rfl (Lg0 cc ad S))) (v := .ref (ad 1)) rfl dX11_setWeb_42 ?_
        refine lv_iload_n hx hb dX11_setWeb_45 rfl (lv_at hl 1 rfl) ?_
        refine lv_iload_n hx hb dX11_setWeb_46 rfl (lv_at hl 2 rfl) ?_
        refine q_VI hC hW (CtI.lift (c_X10_changeStiffness l D cc ad S x y) ([(h, .inr (11, [.ref (ad 0), .ref (a2 0)]))]) (LW cc a2 S2) rfl rfl) mX11_78 (1 + 1) (ap_g1 (ap_g2 rfl (Lg1 cc ad S))) rfl (by decide) rfl hl.1 rfl (Nat.le_of_ble_eq_true rfl) (by decide) dX11_setWeb_47 (fun H locs hW => ?_)
        exact hend _ _ _ _ _ _ (by simp only [sX11_setWeb, if_neg c_9, if_neg c_19, if_pos c_32]) (by simp only [sX11_setWeb_S, if_neg c_9, if_neg c_19, if_pos c_32]) hW dX11_setWeb_50
      · skip
        refine q_ldc hC nX11_36 dX11_setWeb_35 ?_
        exact hend _ _ _ _ _ _ (by simp only [sX11_setWeb, if_neg c_9, if_neg c_19, if_neg c_32]) (by simp only [sX11_setWeb_S, if_neg c_9, if_neg c_19, if_neg c_32]) hW dX11_setWeb_37
    · skip
      refine q_ldc hC nX11_27 dX11_setWeb_22 ?_
      exact hend _ _ _ _ _ _ (by simp only [sX11_setWeb, if_neg c_9, if_pos c_19]) (by simp only [sX11_setWeb_S, if_neg c_9, if_pos c_19]) hW dX11_setWeb_24
def sX11_setStrength (S S2 : St) (x : Int32) (y : Int32) : Int32 := (if (sX11_isWithin x 1000 10000000) = 0 then (-1000002) else (if (sX11_isWithin y 1 1000) = 0 then (-1000002) else (sX10_changeStrength S x y)))
def sX11_setStrength_S (S S2 : St) (x : Int32) (y : Int32) : St := (if (sX11_isWithin x 1000 10000000) = 0 then S else (if (sX11_isWithin y 1 1000) = 0 then S else (sX10_changeStrength_S S x y)))
set_option maxHeartbeats 4000000 in
set_option maxRecDepth 100000 in
theorem c_X11_setStrength (l : Launch) (D : va_G) (cc : Nat → ClassId) (h : Nat) (ad a2 : Nat → Nat) (S S2 : St) (x : Int32) (y : Int32) : CtI l D cc yX11_setStrength cX11_setStrength 3 .int 1 [.ref h, .int x, .int y] (CW cc h ad a2 S S2) (sX11_setStrength S S2 x y) (CW cc h ad a2 (sX11_setStrength_S S S2 x y) S2) := by
  refine CtI.of (plainFor_of_name (by decide +kernel)) rfl (Nat.le_of_ble_eq_true rfl) ?_
  intro p e s m args below meth c A Q hC hW hend ls hl
  obtain ⟨⟨hx, hb, hml, hown, hts⟩, hNW⟩ := id hC
  unfold CW at hW hend
  have hl : lv_has ls 3 [(0, .ref h), (1, .int x), (2, .int y)] := hl
  refine lv_iload_n hx hb dX11_setStrength_0 rfl (lv_at hl 1 rfl) ?_
  refine lv_sipush (v := 1000) hx hb dX11_setStrength_1 (by decide) ?_
  refine q_ldc hC nX11_22 dX11_setStrength_4 ?_
  refine q_SI hC hW (c_X11_isWithin l D cc _ x 1000 10000000) mX11_23 (by decide) rfl hl.1 rfl (Nat.le_of_ble_eq_true rfl) (by decide) dX11_setStrength_6 (fun H locs hW => ?_)
  refine lv_if_eq (tgt := 23) hx hb dX11_setStrength_9 (by decide) (fun c_9 => ?_) (fun c_9 => ?_)
  · skip
    refine q_ldc hC nX11_27 dX11_setStrength_23 ?_
    exact hend _ _ _ _ _ _ (by simp only [sX11_setStrength, if_pos c_9]) (by simp only [sX11_setStrength_S, if_pos c_9]) hW dX11_setStrength_25
  · skip
    refine lv_iload_n hx hb dX11_setStrength_12 rfl (lv_at hl 2 rfl) ?_
    refine lv_iconst (v := 1) hx hb dX11_setStrength_13 (by decide) ?_
    refine lv_sipush (v := 1000) hx hb dX11_setStrength_14 (by decide) ?_
    refine q_SI hC hW (c_X11_isWithin l D cc _ y 1 1000) mX11_23 (by decide) rfl hl.1 rfl (Nat.le_of_ble_eq_true rfl) (by decide) dX11_setStrength_17 (fun H locs hW => ?_)
    refine lv_if_ne (tgt := 26) hx hb dX11_setStrength_20 (by decide) (fun c_20 => ?_) (fun c_20 => ?_)
    · skip
      refine lv_aload_n hx hb dX11_setStrength_26 rfl (lv_at hl 0 rfl) ?_
      refine q_get hC hW kX11_12 0 (ap_g1 (ap_g1 rfl)) (v := .ref (ad 0)) rfl dX11_setStrength_27 ?_
      refine q_get hC hW kX11_74 (1 + 0) (ap_g1 (ap_g2 rfl (Lg0 cc ad S))) (v := .ref (ad 1)) rfl dX11_setStrength_30 ?_
      refine lv_iload_n hx hb dX11_setStrength_33 rfl (lv_at hl 1 rfl) ?_
      refine lv_iload_n hx hb dX11_setStrength_34 rfl (lv_at hl 2 rfl) ?_
      refine q_VI hC hW (CtI.lift (c_X10_changeStrength l D cc ad S x y) ([(h, .inr (11, [.ref (ad 0), .ref (a2 0)]))]) (LW cc a2 S2) rfl rfl) mX11_84 (1 + 1) (ap_g1 (ap_g2 rfl (Lg1 cc ad S))) rfl (by decide) rfl hl.1 rfl (Nat.le_of_ble_eq_true rfl) (by decide) dX11_setStrength_35 (fun H locs hW => ?_)
      exact hend _ _ _ _ _ _ (by simp only [sX11_setStrength, if_neg c_9, if_neg c_20]) (by simp only [sX11_setStrength_S, if_neg c_9, if_neg c_20]) hW dX11_setStrength_38
    · skip
      refine q_ldc hC nX11_27 dX11_setStrength_23 ?_
      exact hend _ _ _ _ _ _ (by simp only [sX11_setStrength, if_neg c_9, if_pos c_20]) (by simp only [sX11_setStrength_S, if_neg c_9, if_pos c_20]) hW dX11_setStrength_25
def sX11_setDraw (S S2 : St) (r : Nat) (y : Int32) : Int32 := (if (sX11_isWithin y (-20000) 20000) = 0 then (-1000002) else (S.1 17 r))
def sX11_setDraw_S (S S2 : St) (r : Nat) (y : Int32) : St := (if (sX11_isWithin y (-20000) 20000) = 0 then S else (sI S 17 r y))
set_option maxHeartbeats 4000000 in
set_option maxRecDepth 100000 in
theorem c_X11_setDraw (l : Launch) (D : va_G) (cc : Nat → ClassId) (h : Nat) (ad a2 : Nat → Nat) (S S2 : St) (r : Nat) (y : Int32) (hI : Inv S) (hr : 1 ≤ r ∧ r ≤ cN S) : CtI l D cc yX11_setDraw cX11_setDraw 4 .int 1 [.ref h, .int (nI r), .int y] (CW cc h ad a2 S S2) (sX11_setDraw S S2 r y) (CW cc h ad a2 (sX11_setDraw_S S S2 r y) S2) := by
  refine CtI.of (plainFor_of_name (by decide +kernel)) rfl (Nat.le_of_ble_eq_true rfl) ?_
  intro p e s m args below meth c A Q hC hW hend ls hl
  obtain ⟨⟨hx, hb, hml, hown, hts⟩, hNW⟩ := id hC
  unfold CW at hW hend
  have hl : lv_has ls 4 [(0, .ref h), (1, .int (nI r)), (2, .int y)] := hl
  obtain ⟨⟨-, hb1_hI, hb2_hI⟩, ⟨-, hq_hI⟩, ⟨-, hm_hI⟩, ⟨-, ho_hI⟩, ⟨-, hc_hI⟩⟩ := id hI
  refine lv_iload_n hx hb dX11_setDraw_0 rfl (lv_at hl 1 rfl) ?_
  refine q_if_eq_n (tgt := 15) hx hb (a := r) rfl (by omega) dX11_setDraw_1 (by decide) (fun c_1 => by exfalso; omega) (fun c_1 => ?_)
  refine lv_aload_n hx hb dX11_setDraw_4 rfl (lv_at hl 0 rfl) ?_
  refine q_get hC hW kX11_12 0 (ap_g1 (ap_g1 rfl)) (v := .ref (ad 0)) rfl dX11_setDraw_5 ?_
  refine lv_iload_n hx hb dX11_setDraw_8 rfl (lv_at hl 1 rfl) ?_
  refine q_VI hC hW (CtI.lift (c_X3_hasRoller l D cc ad S (nI r)) ([(h, .inr (11, [.ref (ad 0), .ref (a2 0)]))]) (LW cc a2 S2) rfl rfl) mX11_87 (1 + 0) (ap_g1 (ap_g2 rfl (Lg0 cc ad S))) rfl (by decide) rfl hl.1 rfl (Nat.le_of_ble_eq_true rfl) (by decide) dX11_setDraw_9 (fun H locs hW => ?_)
  refine q_ri (v := nI 1) (hasRoller_1 S (cN S) r hI.1.1 (by omega) hr.2) ?_
  refine q_if_ne_n (tgt := 18) hx hb (a := 1) rfl (by omega) dX11_setDraw_12 (by decide) (fun c_12 => ?_) (fun c_12 => by exfalso; omega)
  refine lv_iload_n hx hb dX11_setDraw_18 rfl (lv_at hl 2 rfl) ?_
  refine lv_sipush (v := (-20000)) hx hb dX11_setDraw_19 (by decide) ?_
  refine lv_sipush (v := 20000) hx hb dX11_setDraw_22 (by decide) ?_
  refine q_SI hC hW (c_X11_isWithin l D cc _ y (-20000) 20000) mX11_23 (by decide) rfl hl.1 rfl (Nat.le_of_ble_eq_true rfl) (by decide) dX11_setDraw_25 (fun H locs hW => ?_)
  refine lv_if_ne (tgt := 34) hx hb dX11_setDraw_28 (by decide) (fun c_28 => ?_) (fun c_28 => ?_)
  · skip
    refine lv_aload_n hx hb dX11_setDraw_34 rfl (lv_at hl 0 rfl) ?_
    refine q_get hC hW kX11_12 0 (ap_g1 (ap_g1 rfl)) (v := .ref (ad 0)) rfl dX11_setDraw_35 ?_
    refine q_get hC hW kX11_90 (1 + 0) (ap_g1 (ap_g2 rfl (Lg0 cc ad S))) (v := .ref (ad 13)) rfl dX11_setDraw_38 ?_
    refine lv_iload_n hx hb dX11_setDraw_41 rfl (lv_at hl 1 rfl) ?_
    refine q_aald hC hW (1 + 13) 2 (ap_g1 (ap_g2 rfl (Lg13 cc ad S))) rfl (v := ad (r + 33)) r rfl (by omega) (by decide) rfl dX11_setDraw_42 ?_
    refine q_get hC hW kX11_94 (1 + (r + 33)) (ap_g1 (ap_g2 rfl (Lg_f7 cc ad S r (by omega)))) (v := .int (S.1 17 r)) rfl dX11_setDraw_43 ?_
    refine lv_istore_n (lv' := [(3, .int (S.1 17 r)), (0, .ref h), (1, .int (nI r)), (2, .int y)]) hx hb dX11_setDraw_46 rfl hl (by decide) rfl (fun ls hl => ?_)
    refine lv_aload_n hx hb dX11_setDraw_47 rfl (lv_at hl 1 rfl) ?_
    refine q_get hC hW kX11_12 0 (ap_g1 (ap_g1 rfl)) (v := .ref (ad 0)) rfl dX11_setDraw_48 ?_
    refine q_get hC hW kX11_90 (1 + 0) (ap_g1 (ap_g2 rfl (Lg0 cc ad S))) (v := .ref (ad 13)) rfl dX11_setDraw_51 ?_
    refine lv_iload_n hx hb dX11_setDraw_54 rfl (lv_at hl 2 rfl) ?_
    refine q_aald hC hW (1 + 13) 2 (ap_g1 (ap_g2 rfl (Lg13 cc ad S))) rfl (v := ad (r + 33)) r rfl (by omega) (by decide) rfl dX11_setDraw_55 ?_
    refine lv_iload_n hx hb dX11_setDraw_56 rfl (lv_at hl 3 rfl) ?_
    refine q_putI hC hW kX11_94 (1 + (r + 33)) (ap_g1 (ap_g2 rfl (Lg_f7 cc ad S r (by omega)))) (ap_s1 (OL_len _ _ _ _) (by omega) (ap_s2 rfl (Ls_f7_1 cc ad S r (by omega) y))) (Nat.le_of_ble_eq_true rfl) dX11_setDraw_57 (fun H locs hW => ?_)
    refine lv_iload_n hx hb dX11_setDraw_60 rfl (lv_at hl 0 rfl) ?_
    exact hend _ _ _ _ _ _ (by simp only [sX11_setDraw, if_neg c_28]) (by simp only [sX11_setDraw_S, if_neg c_28]) hW dX11_setDraw_61
  · skip
    refine q_ldc hC nX11_27 dX11_setDraw_31 ?_
    exact hend _ _ _ _ _ _ (by simp only [sX11_setDraw, if_pos c_28]) (by simp only [sX11_setDraw_S, if_pos c_28]) hW dX11_setDraw_33
def sX11_setDraw_no (S S2 : St) (x : Int32) (y : Int32) : Int32 := (-1000001)
set_option maxHeartbeats 4000000 in
set_option maxRecDepth 100000 in
theorem c_X11_setDraw_no (l : Launch) (D : va_G) (cc : Nat → ClassId) (h : Nat) (ad a2 : Nat → Nat) (S S2 : St) (x : Int32) (y : Int32) (hno : x = 0 ∨ sX3_hasRoller S x = 0) : CtI l D cc yX11_setDraw cX11_setDraw 4 .int 1 [.ref h, .int x, .int y] (CW cc h ad a2 S S2) (sX11_setDraw_no S S2 x y) (CW cc h ad a2 S S2) := by
  refine CtI.of (plainFor_of_name (by decide +kernel)) rfl (Nat.le_of_ble_eq_true rfl) ?_
  intro p e s m args below meth c A Q hC hW hend ls hl
  obtain ⟨⟨hx, hb, hml, hown, hts⟩, hNW⟩ := id hC
  unfold CW at hW hend
  have hl : lv_has ls 4 [(0, .ref h), (1, .int x), (2, .int y)] := hl
  refine lv_iload_n hx hb dX11_setDraw_0 rfl (lv_at hl 1 rfl) ?_
  refine lv_if_eq (tgt := 15) hx hb dX11_setDraw_1 (by decide) (fun c_1 => ?_) (fun c_1 => ?_)
  · skip
    refine q_ldc hC nX11_45 dX11_setDraw_15 ?_
    exact hend _ _ _ _ _ _ (by simp only [sX11_setDraw_no, if_pos c_1]) rfl hW dX11_setDraw_17
  · skip
    refine lv_aload_n hx hb dX11_setDraw_4 rfl (lv_at hl 0 rfl) ?_
    refine q_get hC hW kX11_12 0 (ap_g1 (ap_g1 rfl)) (v := .ref (ad 0)) rfl dX11_setDraw_5 ?_
    refine lv_iload_n hx hb dX11_setDraw_8 rfl (lv_at hl 1 rfl) ?_
    refine q_VI hC hW (CtI.lift (c_X3_hasRoller l D cc ad S x) ([(h, .inr (11, [.ref (ad 0), .ref (a2 0)]))]) (LW cc a2 S2) rfl rfl) mX11_87 (1 + 0) (ap_g1 (ap_g2 rfl (Lg0 cc ad S))) rfl (by decide) rfl hl.1 rfl (Nat.le_of_ble_eq_true rfl) (by decide) dX11_setDraw_9 (fun H locs hW => ?_)
    refine q_ri (v := nI 0) (hno.resolve_left c_1) ?_
    refine q_if_ne_n (tgt := 18) hx hb (a := 0) rfl (by omega) dX11_setDraw_12 (by decide) (fun c_12 => by exfalso; omega) (fun c_12 => ?_)
    refine q_ldc hC nX11_45 dX11_setDraw_15 ?_
    exact hend _ _ _ _ _ _ (by simp only [sX11_setDraw_no, if_neg c_1]) rfl hW dX11_setDraw_17
def sX11_setSpeed (S S2 : St) (x : Int32) (y : Int32) : Int32 := (if (sX11_isWithin x 0 20000) = 0 then (-1000002) else (if (sX11_isWithin y 1 5000) = 0 then (-1000002) else (sX1_changeTarget S x y)))
def sX11_setSpeed_S (S S2 : St) (x : Int32) (y : Int32) : St := (if (sX11_isWithin x 0 20000) = 0 then S else (if (sX11_isWithin y 1 5000) = 0 then S else (sX1_changeTarget_S S x y)))
set_option maxHeartbeats 4000000 in
set_option maxRecDepth 100000 in
theorem c_X11_setSpeed (l : Launch) (D : va_G) (cc : Nat → ClassId) (h : Nat) (ad a2 : Nat → Nat) (S S2 : St) (x : Int32) (y : Int32) : CtI l D cc yX11_setSpeed cX11_setSpeed 3 .int 1 [.ref h, .int x, .int y] (CW cc h ad a2 S S2) (sX11_setSpeed S S2 x y) (CW cc h ad a2 (sX11_setSpeed_S S S2 x y) S2) := by
  refine CtI.of (plainFor_of_name (by decide +kernel)) rfl (Nat.le_of_ble_eq_true rfl) ?_
  intro p e s m args below meth c A Q hC hW hend ls hl
  obtain ⟨⟨hx, hb, hml, hown, hts⟩, hNW⟩ := id hC
  unfold CW at hW hend
  have hl : lv_has ls 3 [(0, .ref h), (1, .int x), (2, .int y)] := hl
  refine lv_iload_n hx hb dX11_setSpeed_0 rfl (lv_at hl 1 rfl) ?_
  refine lv_iconst (v := 0) hx hb dX11_setSpeed_1 (by decide) ?_
  refine lv_sipush (v := 20000) hx hb dX11_setSpeed_2 (by decide) ?_
  refine q_SI hC hW (c_X11_isWithin l D cc _ x 0 20000) mX11_23 (by decide) rfl hl.1 rfl (Nat.le_of_ble_eq_true rfl) (by decide) dX11_setSpeed_5 (fun H locs hW => ?_)
  refine lv_if_eq (tgt := 22) hx hb dX11_setSpeed_8 (by decide) (fun c_8 => ?_) (fun c_8 => ?_)
  · skip
    refine q_ldc hC nX11_27 dX11_setSpeed_22 ?_
    exact hend _ _ _ _ _ _ (by simp only [sX11_setSpeed, if_pos c_8]) (by simp only [sX11_setSpeed_S, if_pos c_8]) hW dX11_setSpeed_24
  · skip
    refine lv_iload_n hx hb dX11_setSpeed_11 rfl (lv_at hl 2 rfl) ?_
    refine lv_iconst (v := 1) hx hb dX11_setSpeed_12 (by decide) ?_
    refine lv_sipush (v := 5000) hx hb dX11_setSpeed_13 (by decide) ?_
    refine q_SI hC hW (c_X11_isWithin l D cc _ y 1 5000) mX11_23 (by decide) rfl hl.1 rfl (Nat.le_of_ble_eq_true rfl) (by decide) dX11_setSpeed_16 (fun H locs hW => ?_)
    refine lv_if_ne (tgt := 25) hx hb dX11_setSpeed_19 (by decide) (fun c_19 => ?_) (fun c_19 => ?_)
    · skip
      refine lv_aload_n hx hb dX11_setSpeed_25 rfl (lv_at hl 0 rfl) ?_
      refine q_get hC hW kX11_12 0 (ap_g1 (ap_g1 rfl)) (v := .ref (ad 0)) rfl dX11_setSpeed_26 ?_
      refine q_get hC hW kX11_99 (1 + 0) (ap_g1 (ap_g2 rfl (Lg0 cc ad S))) (v := .ref (ad 2)) rfl dX11_setSpeed_29 ?_
      refine lv_iload_n hx hb dX11_setSpeed_32 rfl (lv_at hl 1 rfl) ?_
      refine lv_iload_n hx hb dX11_setSpeed_33 rfl (lv_at hl 2 rfl) ?_
      refine q_VI hC hW (CtI.lift (c_X1_changeTarget l D cc ad S x y) ([(h, .inr (11, [.ref (ad 0), .ref (a2 0)]))]) (LW cc a2 S2) rfl rfl) mX11_103 (1 + 2) (ap_g1 (ap_g2 rfl (Lg2 cc ad S))) rfl (by decide) rfl hl.1 rfl (Nat.le_of_ble_eq_true rfl) (by decide) dX11_setSpeed_34 (fun H locs hW => ?_)
      exact hend _ _ _ _ _ _ (by simp only [sX11_setSpeed, if_neg c_8, if_neg c_19]) (by simp only [sX11_setSpeed_S, if_neg c_8, if_neg c_19]) hW dX11_setSpeed_37
    · skip
      refine q_ldc hC nX11_27 dX11_setSpeed_22 ?_
      exact hend _ _ _ _ _ _ (by simp only [sX11_setSpeed, if_neg c_8, if_pos c_19]) (by simp only [sX11_setSpeed_S, if_neg c_8, if_pos c_19]) hW dX11_setSpeed_24
def sX11_setSplicing (S S2 : St) (x : Int32) (y : Int32) : Int32 := (if (sX11_isWithin x 0 20000) = 0 then (-1000002) else (if (sX11_isWithin y 0 100000000) = 0 then (-1000002) else (sX1_changeSplicing S x y)))
def sX11_setSplicing_S (S S2 : St) (x : Int32) (y : Int32) : St := (if (sX11_isWithin x 0 20000) = 0 then S else (if (sX11_isWithin y 0 100000000) = 0 then S else (sX1_changeSplicing_S S x y)))
set_option maxHeartbeats 4000000 in
set_option maxRecDepth 100000 in
theorem c_X11_setSplicing (l : Launch) (D : va_G) (cc : Nat → ClassId) (h : Nat) (ad a2 : Nat → Nat) (S S2 : St) (x : Int32) (y : Int32) : CtI l D cc yX11_setSplicing cX11_setSplicing 3 .int 1 [.ref h, .int x, .int y] (CW cc h ad a2 S S2) (sX11_setSplicing S S2 x y) (CW cc h ad a2 (sX11_setSplicing_S S S2 x y) S2) := by
  refine CtI.of (plainFor_of_name (by decide +kernel)) rfl (Nat.le_of_ble_eq_true rfl) ?_
  intro p e s m args below meth c A Q hC hW hend ls hl
  obtain ⟨⟨hx, hb, hml, hown, hts⟩, hNW⟩ := id hC
  unfold CW at hW hend
  have hl : lv_has ls 3 [(0, .ref h), (1, .int x), (2, .int y)] := hl
  refine lv_iload_n hx hb dX11_setSplicing_0 rfl (lv_at hl 1 rfl) ?_
  refine lv_iconst (v := 0) hx hb dX11_setSplicing_1 (by decide) ?_
  refine lv_sipush (v := 20000) hx hb dX11_setSplicing_2 (by decide) ?_
  refine q_SI hC hW (c_X11_isWithin l D cc _ x 0 20000) mX11_23 (by decide) rfl hl.1 rfl (Nat.le_of_ble_eq_true rfl) (by decide) dX11_setSplicing_5 (fun H locs hW => ?_)
  refine lv_if_eq (tgt := 21) hx hb dX11_setSplicing_8 (by decide) (fun c_8 => ?_) (fun c_8 => ?_)
  · skip
    refine q_ldc hC nX11_27 dX11_setSplicing_21 ?_
    exact hend _ _ _ _ _ _ (by simp only [sX11_setSplicing, if_pos c_8]) (by simp only [sX11_setSplicing_S, if_pos c_8]) hW dX11_setSplicing_23
  · skip
    refine lv_iload_n hx hb dX11_setSplicing_11 rfl (lv_at hl 2 rfl) ?_
    refine lv_iconst (v := 0) hx hb dX11_setSplicing_12 (by decide) ?_
    refine q_ldc hC nX11_108 dX11_setSplicing_13 ?_
    refine q_SI hC hW (c_X11_isWithin l D cc _ y 0 100000000) mX11_23 (by decide) rfl hl.1 rfl (Nat.le_of_ble_eq_true rfl) (by decide) dX11_setSplicing_15 (fun H locs hW => ?_)
    refine lv_if_ne (tgt := 24) hx hb dX11_setSplicing_18 (by decide) (fun c_18 => ?_) (fun c_18 => ?_)
    · skip
      refine lv_aload_n hx hb dX11_setSplicing_24 rfl (lv_at hl 0 rfl) ?_
      refine q_get hC hW kX11_12 0 (ap_g1 (ap_g1 rfl)) (v := .ref (ad 0)) rfl dX11_setSplicing_25 ?_
      refine q_get hC hW kX11_99 (1 + 0) (ap_g1 (ap_g2 rfl (Lg0 cc ad S))) (v := .ref (ad 2)) rfl dX11_setSplicing_28 ?_
      refine lv_iload_n hx hb dX11_setSplicing_31 rfl (lv_at hl 1 rfl) ?_
      refine lv_iload_n hx hb dX11_setSplicing_32 rfl (lv_at hl 2 rfl) ?_
      refine q_VI hC hW (CtI.lift (c_X1_changeSplicing l D cc ad S x y) ([(h, .inr (11, [.ref (ad 0), .ref (a2 0)]))]) (LW cc a2 S2) rfl rfl) mX11_109 (1 + 2) (ap_g1 (ap_g2 rfl (Lg2 cc ad S))) rfl (by decide) rfl hl.1 rfl (Nat.le_of_ble_eq_true rfl) (by decide) dX11_setSplicing_33 (fun H locs hW => ?_)
      exact hend _ _ _ _ _ _ (by simp only [sX11_setSplicing, if_neg c_8, if_neg c_18]) (by simp only [sX11_setSplicing_S, if_neg c_8, if_neg c_18]) hW dX11_setSplicing_36
    · skip
      refine q_ldc hC nX11_27 dX11_setSplicing_21 ?_
      exact hend _ _ _ _ _ _ (by simp only [sX11_setSplicing, if_neg c_8, if_pos c_18]) (by simp only [sX11_setSplicing_S, if_neg c_8, if_pos c_18]) hW dX11_setSplicing_23
def sX11_loadRoll (S S2 : St) (x : Int32) : Int32 := (if (sX11_isWithin x 1 1000000000) = 0 then (-1000002) else (sX9_put S x (cQ S)))
def sX11_loadRoll_S (S S2 : St) (x : Int32) : St := (if (sX11_isWithin x 1 1000000000) = 0 then S else (sX9_put_S S x (cQ S)))
set_option maxHeartbeats 4000000 in
set_option maxRecDepth 100000 in
theorem c_X11_loadRoll (l : Launch) (D : va_G) (cc : Nat → ClassId) (h : Nat) (ad a2 : Nat → Nat) (S S2 : St) (x : Int32) (hI : Inv S) : CtI l D cc yX11_loadRoll cX11_loadRoll 2 .int 1 [.ref h, .int x] (CW cc h ad a2 S S2) (sX11_loadRoll S S2 x) (CW cc h ad a2 (sX11_loadRoll_S S S2 x) S2) := by
  refine CtI.of (plainFor_of_name (by decide +kernel)) rfl (Nat.le_of_ble_eq_true rfl) ?_
  intro p e s m args below meth c A Q hC hW hend ls hl
  obtain ⟨⟨hx, hb, hml, hown, hts⟩, hNW⟩ := id hC
  unfold CW at hW hend
  have hl : lv_has ls 2 [(0, .ref h), (1, .int x)] := hl
  obtain ⟨⟨-, hb1_hI, hb2_hI⟩, ⟨-, hq_hI⟩, ⟨-, hm_hI⟩, ⟨-, ho_hI⟩, ⟨-, hc_hI⟩⟩ := id hI
  refine lv_iload_n hx hb dX11_loadRoll_0 rfl (lv_at hl 1 rfl) ?_
  refine lv_iconst (v := 1) hx hb dX11_loadRoll_1 (by decide) ?_
  refine q_ldc hC nX11_112 dX11_loadRoll_2 ?_
  refine q_SI hC hW (c_X11_isWithin l D cc _ x 1 1000000000) mX11_23 (by decide) rfl hl.1 rfl (Nat.le_of_ble_eq_true rfl) (by decide) dX11_loadRoll_4 (fun H locs hW => ?_)
  refine lv_if_ne (tgt := 13) hx hb dX11_loadRoll_7 (by decide) (fun c_7 => ?_) (fun c_7 => ?_)
  · skip
    refine lv_aload_n hx hb dX11_loadRoll_13 rfl (lv_at hl 0 rfl) ?_
    refine q_get hC hW kX11_12 0 (ap_g1 (ap_g1 rfl)) (v := .ref (ad 0)) rfl dX11_loadRoll_14 ?_
    refine q_get hC hW kX11_113 (1 + 0) (ap_g1 (ap_g2 rfl (Lg0 cc ad S))) (v := .ref (ad 3)) rfl dX11_loadRoll_17 ?_
    refine lv_iload_n hx hb dX11_loadRoll_20 rfl (lv_at hl 1 rfl) ?_
    refine q_VI hC hW (CtI.lift (c_X9_put l D cc ad S x (cQ S) hI.2.1.1 (by omega)) ([(h, .inr (11, [.ref (ad 0), .ref (a2 0)]))]) (LW cc a2 S2) rfl rfl) mX11_117 (1 + 3) (ap_g1 (ap_g2 rfl (Lg3 cc ad S))) rfl (by decide) rfl hl.1 rfl (Nat.le_of_ble_eq_true rfl) (by decide) dX11_loadRoll_21 (fun H locs hW => ?_)
    exact hend _ _ _ _ _ _ (by simp only [sX11_loadRoll, if_neg c_7]) (by simp only [sX11_loadRoll_S, if_neg c_7]) hW dX11_loadRoll_24
  · skip
    refine q_ldc hC nX11_27 dX11_loadRoll_10 ?_
    exact hend _ _ _ _ _ _ (by simp only [sX11_loadRoll, if_pos c_7]) (by simp only [sX11_loadRoll_S, if_pos c_7]) hW dX11_loadRoll_12
def sX11_setRollLength (S S2 : St) (x : Int32) : Int32 := (if (sX11_isWithin x 100000 1000000000) = 0 then (-1000002) else (S.1 0 14))
def sX11_setRollLength_S (S S2 : St) (x : Int32) : St := (if (sX11_isWithin x 100000 1000000000) = 0 then S else (sI S 0 14 x))
set_option maxHeartbeats 4000000 in
set_option maxRecDepth 100000 in
theorem c_X11_setRollLength (l : Launch) (D : va_G) (cc : Nat → ClassId) (h : Nat) (ad a2 : Nat → Nat) (S S2 : St) (x : Int32) : CtI l D cc yX11_setRollLength cX11_setRollLength 3 .int 1 [.ref h, .int x] (CW cc h ad a2 S S2) (sX11_setRollLength S S2 x) (CW cc h ad a2 (sX11_setRollLength_S S S2 x) S2) := by
  refine CtI.of (plainFor_of_name (by decide +kernel)) rfl (Nat.le_of_ble_eq_true rfl) ?_
  intro p e s m args below meth c A Q hC hW hend ls hl
  obtain ⟨⟨hx, hb, hml, hown, hts⟩, hNW⟩ := id hC
  unfold CW at hW hend
  have hl : lv_has ls 3 [(0, .ref h), (1, .int x)] := hl
  refine lv_iload_n hx hb dX11_setRollLength_0 rfl (lv_at hl 1 rfl) ?_
  refine q_ldc hC nX11_21 dX11_setRollLength_1 ?_
  refine q_ldc hC nX11_112 dX11_setRollLength_3 ?_
  refine q_SI hC hW (c_X11_isWithin l D cc _ x 100000 1000000000) mX11_23 (by decide) rfl hl.1 rfl (Nat.le_of_ble_eq_true rfl) (by decide) dX11_setRollLength_5 (fun H locs hW => ?_)
  refine lv_if_ne (tgt := 14) hx hb dX11_setRollLength_8 (by decide) (fun c_8 => ?_) (fun c_8 => ?_)
  · skip
    refine lv_aload_n hx hb dX11_setRollLength_14 rfl (lv_at hl 0 rfl) ?_
    refine q_get hC hW kX11_12 0 (ap_g1 (ap_g1 rfl)) (v := .ref (ad 0)) rfl dX11_setRollLength_15 ?_
    refine q_get hC hW kX11_122 (1 + 0) (ap_g1 (ap_g2 rfl (Lg0 cc ad S))) (v := .ref (ad 5)) rfl dX11_setRollLength_18 ?_
    refine q_get hC hW kX11_126 (1 + 5) (ap_g1 (ap_g2 rfl (Lg5 cc ad S))) (v := .int (S.1 0 14)) rfl dX11_setRollLength_21 ?_
    refine lv_istore_n (lv' := [(2, .int (S.1 0 14)), (0, .ref h), (1, .int x)]) hx hb dX11_setRollLength_24 rfl hl (by decide) rfl (fun ls hl => ?_)
    refine lv_aload_n hx hb dX11_setRollLength_25 rfl (lv_at hl 1 rfl) ?_
    refine q_get hC hW kX11_12 0 (ap_g1 (ap_g1 rfl)) (v := .ref (ad 0)) rfl dX11_setRollLength_26 ?_
    refine q_get hC hW kX11_122 (1 + 0) (ap_g1 (ap_g2 rfl (Lg0 cc ad S))) (v := .ref (ad 5)) rfl dX11_setRollLength_29 ?_
    refine lv_iload_n hx hb dX11_setRollLength_32 rfl (lv_at hl 2 rfl) ?_
    refine q_putI hC hW kX11_126 (1 + 5) (ap_g1 (ap_g2 rfl (Lg5 cc ad S))) (ap_s1 (OL_len _ _ _ _) (by omega) (ap_s2 rfl (Ls5_1 cc ad S x))) (Nat.le_of_ble_eq_true rfl) dX11_setRollLength_33 (fun H locs hW => ?_)
    refine lv_iload_n hx hb dX11_setRollLength_36 rfl (lv_at hl 0 rfl) ?_
    exact hend _ _ _ _ _ _ (by simp only [sX11_setRollLength, if_neg c_8]) (by simp only [sX11_setRollLength_S, if_neg c_8]) hW dX11_setRollLength_37
  · skip
    refine q_ldc hC nX11_27 dX11_setRollLength_11 ?_
    exact hend _ _ _ _ _ _ (by simp only [sX11_setRollLength, if_pos c_8]) (by simp only [sX11_setRollLength_S, if_pos c_8]) hW dX11_setRollLength_13
def sX11_thread (S S2 : St)  : Int32 := (if (S.1 0 2) = 0 then (-1000003) else 1)
def sX11_thread_S (S S2 : St)  : St := (if (S.1 0 2) = 0 then S else (sX3_threadAnew_S S))
set_option maxHeartbeats 4000000 in
set_option maxRecDepth 100000 in
theorem c_X11_thread (l : Launch) (D : va_G) (cc : Nat → ClassId) (h : Nat) (ad a2 : Nat → Nat) (S S2 : St) (hI : Inv S) : CtI l D cc yX11_thread cX11_thread 1 .int 3 [.ref h] (CW cc h ad a2 S S2) (sX11_thread S S2 ) (CW cc h ad a2 (sX11_thread_S S S2 ) S2) := by
  refine CtI.of (plainFor_of_name (by decide +kernel)) rfl (Nat.le_of_ble_eq_true rfl) ?_
  intro p e s m args below meth c A Q hC hW hend ls hl
  obtain ⟨⟨hx, hb, hml, hown, hts⟩, hNW⟩ := id hC
  unfold CW at hW hend
  have hl : lv_has ls 1 [(0, .ref h)] := hl
  obtain ⟨⟨-, hb1_hI, hb2_hI⟩, ⟨-, hq_hI⟩, ⟨-, hm_hI⟩, ⟨-, ho_hI⟩, ⟨-, hc_hI⟩⟩ := id hI
  refine lv_aload_n hx hb dX11_thread_0 rfl (lv_at hl 0 rfl) ?_
  refine q_get hC hW kX11_12 0 (ap_g1 (ap_g1 rfl)) (v := .ref (ad 0)) rfl dX11_thread_1 ?_
  refine q_get hC hW kX11_134 (1 + 0) (ap_g1 (ap_g2 rfl (Lg0 cc ad S))) (v := .int (S.1 0 2)) rfl dX11_thread_4 ?_
  refine lv_if_ne (tgt := 13) hx hb dX11_thread_7 (by decide) (fun c_7 => ?_) (fun c_7 => ?_)
  · skip
    refine lv_aload_n hx hb dX11_thread_13 rfl (lv_at hl 0 rfl) ?_
    refine q_get hC hW kX11_12 0 (ap_g1 (ap_g1 rfl)) (v := .ref (ad 0)) rfl dX11_thread_14 ?_
    refine q_VV hC hW (CtV.lift (c_X3_threadAnew l D cc ad S hI) ([(h, .inr (11, [.ref (ad 0), .ref (a2 0)]))]) (LW cc a2 S2) rfl rfl) mX11_137 (1 + 0) (ap_g1 (ap_g2 rfl (Lg0 cc ad S))) rfl (by decide) rfl hl.1 rfl (Nat.le_of_ble_eq_true rfl) (by decide) dX11_thread_17 (fun H locs hW => ?_)
    refine lv_iconst (v := 1) hx hb dX11_thread_20 (by decide) ?_
    exact hend _ _ _ _ _ _ (by simp only [sX11_thread, if_neg c_7]) (by simp only [sX11_thread_S, if_neg c_7]) hW dX11_thread_21
  · skip
    refine q_ldc hC nX11_36 dX11_thread_10 ?_
    exact hend _ _ _ _ _ _ (by simp only [sX11_thread, if_pos c_7]) (by simp only [sX11_thread_S, if_pos c_7]) hW dX11_thread_12
def sX11_value (S S2 : St) (x : Int32) : Int32 := (if x = 0 then (S.1 0 1) else (if x = 1 then (S.1 0 2) else (if x = 2 then (S.1 0 8) else (if x = 3 then (S.1 0 0) else (if x = 4 then (S.1 0 16) else (if x = 5 then (S.1 0 15) else (if x = 6 then (S.1 0 13) else (if x = 7 then (S.1 0 18) else (-1000002)))))))))
set_option maxHeartbeats 4000000 in
set_option maxRecDepth 100000 in
theorem c_X11_value (l : Launch) (D : va_G) (cc : Nat → ClassId) (h : Nat) (ad a2 : Nat → Nat) (S S2 : St) (x : Int32) : CtI l D cc yX11_value cX11_value 2 .int 0 [.ref h, .int x] (CW cc h ad a2 S S2) (sX11_value S S2 x) (CW cc h ad a2 S S2) := by
  refine CtI.of (plainFor_of_name (by decide +kernel)) rfl (Nat.le_of_ble_eq_true rfl) ?_
  intro p e s m args below meth c A Q hC hW hend ls hl
  obtain ⟨⟨hx, hb, hml, hown, hts⟩, hNW⟩ := id hC
  unfold CW at hW hend
  have hl : lv_has ls 2 [(0, .ref h), (1, .int x)] := hl
  refine lv_iload_n hx hb dX11_value_0 rfl (lv_at hl 1 rfl) ?_
  by_cases c_1_0 : x = 0
  · skip
    refine lv_tableIn (tgt := 48) (off := 47) hx hb dX11_value_1 (by rw [c_1_0]; decide) (by rw [c_1_0]; decide) (by rw [c_1_0]; rfl) (by decide) ?_
    refine lv_aload_n hx hb dX11_value_48 rfl (lv_at hl 0 rfl) ?_
    refine q_get hC hW kX11_12 0 (ap_g1 (ap_g1 rfl)) (v := .ref (ad 0)) rfl dX11_value_49 ?_
    refine q_get hC hW kX11_28 (1 + 0) (ap_g1 (ap_g2 rfl (Lg0 cc ad S))) (v := .int (S.1 0 1)) rfl dX11_value_52 ?_
    exact hend _ _ _ _ _ _ (by simp only [sX11_value, if_pos c_1_0]) rfl hW dX11_value_55
  by_cases c_1_1 : x = 1
  · skip
    refine lv_tableIn (tgt := 56) (off := 55) hx hb dX11_value_1 (by rw [c_1_1]; decide) (by rw [c_1_1]; decide) (by rw [c_1_1]; rfl) (by decide) ?_
    refine lv_aload_n hx hb dX11_value_56 rfl (lv_at hl 0 rfl) ?_
    refine q_get hC hW kX11_12 0 (ap_g1 (ap_g1 rfl)) (v := .ref (ad 0)) rfl dX11_value_57 ?_
    refine q_get hC hW kX11_134 (1 + 0) (ap_g1 (ap_g2 rfl (Lg0 cc ad S))) (v := .int (S.1 0 2)) rfl dX11_value_60 ?_
    exact hend _ _ _ _ _ _ (by simp only [sX11_value, if_neg c_1_0, if_pos c_1_1]) rfl hW dX11_value_63
  by_cases c_1_2 : x = 2
  · skip
    refine lv_tableIn (tgt := 64) (off := 63) hx hb dX11_value_1 (by rw [c_1_2]; decide) (by rw [c_1_2]; decide) (by rw [c_1_2]; rfl) (by decide) ?_
    refine lv_aload_n hx hb dX11_value_64 rfl (lv_at hl 0 rfl) ?_
    refine q_get hC hW kX11_12 0 (ap_g1 (ap_g1 rfl)) (v := .ref (ad 0)) rfl dX11_value_65 ?_
    refine q_get hC hW kX11_99 (1 + 0) (ap_g1 (ap_g2 rfl (Lg0 cc ad S))) (v := .ref (ad 2)) rfl dX11_value_68 ?_
    refine q_get hC hW kX11_140 (1 + 2) (ap_g1 (ap_g2 rfl (Lg2 cc ad S))) (v := .int (S.1 0 8)) rfl dX11_value_71 ?_
    exact hend _ _ _ _ _ _ (by simp only [sX11_value, if_neg c_1_0, if_neg c_1_1, if_pos c_1_2]) rfl hW dX11_value_74
  by_cases c_1_3 : x = 3
  · skip
    refine lv_tableIn (tgt := 75) (off := 74) hx hb dX11_value_1 (by rw [c_1_3]; decide) (by rw [c_1_3]; decide) (by rw [c_1_3]; rfl) (by decide) ?_
    refine lv_aload_n hx hb dX11_value_75 rfl (lv_at hl 0 rfl) ?_
    refine q_get hC hW kX11_12 0 (ap_g1 (ap_g1 rfl)) (v := .ref (ad 0)) rfl dX11_value_76 ?_
    refine q_get hC hW kX11_143 (1 + 0) (ap_g1 (ap_g2 rfl (Lg0 cc ad S))) (v := .int (S.1 0 0)) rfl dX11_value_79 ?_
    exact hend _ _ _ _ _ _ (by simp only [sX11_value, if_neg c_1_0, if_neg c_1_1, if_neg c_1_2, if_pos c_1_3]) rfl hW dX11_value_82
  by_cases c_1_4 : x = 4
  · skip
    refine lv_tableIn (tgt := 83) (off := 82) hx hb dX11_value_1 (by rw [c_1_4]; decide) (by rw [c_1_4]; decide) (by rw [c_1_4]; rfl) (by decide) ?_
    refine lv_aload_n hx hb dX11_value_83 rfl (lv_at hl 0 rfl) ?_
    refine q_get hC hW kX11_12 0 (ap_g1 (ap_g1 rfl)) (v := .ref (ad 0)) rfl dX11_value_84 ?_
    refine q_get hC hW kX11_146 (1 + 0) (ap_g1 (ap_g2 rfl (Lg0 cc ad S))) (v := .ref (ad 6)) rfl dX11_value_87 ?_
    refine q_get hC hW kX11_150 (1 + 6) (ap_g1 (ap_g2 rfl (Lg6 cc ad S))) (v := .int (S.1 0 16)) rfl dX11_value_90 ?_
    exact hend _ _ _ _ _ _ (by simp only [sX11_value, if_neg c_1_0, if_neg c_1_1, if_neg c_1_2, if_neg c_1_3, if_pos c_1_4]) rfl hW dX11_value_93
  by_cases c_1_5 : x = 5
  · skip
    refine lv_tableIn (tgt := 94) (off := 93) hx hb dX11_value_1 (by rw [c_1_5]; decide) (by rw [c_1_5]; decide) (by rw [c_1_5]; rfl) (by decide) ?_
    refine lv_aload_n hx hb dX11_value_94 rfl (lv_at hl 0 rfl) ?_
    refine q_get hC hW kX11_12 0 (ap_g1 (ap_g1 rfl)) (v := .ref (ad 0)) rfl dX11_value_95 ?_
    refine q_get hC hW kX11_122 (1 + 0) (ap_g1 (ap_g2 rfl (Lg0 cc ad S))) (v := .ref (ad 5)) rfl dX11_value_98 ?_
    refine q_get hC hW kX11_155 (1 + 5) (ap_g1 (ap_g2 rfl (Lg5 cc ad S))) (v := .int (S.1 0 15)) rfl dX11_value_101 ?_
    exact hend _ _ _ _ _ _ (by simp only [sX11_value, if_neg c_1_0, if_neg c_1_1, if_neg c_1_2, if_neg c_1_3, if_neg c_1_4, if_pos c_1_5]) rfl hW dX11_value_104
  by_cases c_1_6 : x = 6
  · skip
    refine lv_tableIn (tgt := 105) (off := 104) hx hb dX11_value_1 (by rw [c_1_6]; decide) (by rw [c_1_6]; decide) (by rw [c_1_6]; rfl) (by decide) ?_
    refine lv_aload_n hx hb dX11_value_105 rfl (lv_at hl 0 rfl) ?_
    refine q_get hC hW kX11_12 0 (ap_g1 (ap_g1 rfl)) (v := .ref (ad 0)) rfl dX11_value_106 ?_
    refine q_get hC hW kX11_113 (1 + 0) (ap_g1 (ap_g2 rfl (Lg0 cc ad S))) (v := .ref (ad 3)) rfl dX11_value_109 ?_
    refine q_get hC hW kX11_158 (1 + 3) (ap_g1 (ap_g2 rfl (Lg3 cc ad S))) (v := .int (S.1 0 13)) rfl dX11_value_112 ?_
    exact hend _ _ _ _ _ _ (by simp only [sX11_value, if_neg c_1_0, if_neg c_1_1, if_neg c_1_2, if_neg c_1_3, if_neg c_1_4, if_neg c_1_5, if_pos c_1_6]) rfl hW dX11_value_115
  by_cases c_1_7 : x = 7
  · skip
    refine lv_tableIn (tgt := 116) (off := 115) hx hb dX11_value_1 (by rw [c_1_7]; decide) (by rw [c_1_7]; decide) (by rw [c_1_7]; rfl) (by decide) ?_
    refine lv_aload_n hx hb dX11_value_116 rfl (lv_at hl 0 rfl) ?_
    refine q_get hC hW kX11_12 0 (ap_g1 (ap_g1 rfl)) (v := .ref (ad 0)) rfl dX11_value_117 ?_
    refine q_get hC hW kX11_161 (1 + 0) (ap_g1 (ap_g2 rfl (Lg0 cc ad S))) (v := .ref (ad 8)) rfl dX11_value_120 ?_
    refine q_get hC hW kX11_165 (1 + 8) (ap_g1 (ap_g2 rfl (Lg8 cc ad S))) (v := .int (S.1 0 18)) rfl dX11_value_123 ?_
    exact hend _ _ _ _ _ _ (by simp only [sX11_value, if_neg c_1_0, if_neg c_1_1, if_neg c_1_2, if_neg c_1_3, if_neg c_1_4, if_neg c_1_5, if_neg c_1_6, if_pos c_1_7]) rfl hW dX11_value_126
  refine lv_tableOut (tgt := 127) hx hb dX11_value_1 (sw_out 8 (by intro k hk; rcases (show k = 0 ∨ k = 1 ∨ k = 2 ∨ k = 3 ∨ k = 4 ∨ k = 5 ∨ k = 6 ∨ k = 7 by omega) with rfl | rfl | rfl | rfl | rfl | rfl | rfl | rfl <;> assumption)) (by decide) ?_
  refine q_ldc hC nX11_27 dX11_value_127 ?_
  exact hend _ _ _ _ _ _ (by simp only [sX11_value, if_neg c_1_0, if_neg c_1_1, if_neg c_1_2, if_neg c_1_3, if_neg c_1_4, if_neg c_1_5, if_neg c_1_6, if_neg c_1_7]) rfl hW dX11_value_129
def sX11_breakAt (S S2 : St)  : Int32 := (S.1 0 3)
set_option maxHeartbeats 4000000 in
set_option maxRecDepth 100000 in
theorem c_X11_breakAt (l : Launch) (D : va_G) (cc : Nat → ClassId) (h : Nat) (ad a2 : Nat → Nat) (S S2 : St) : CtI l D cc yX11_breakAt cX11_breakAt 1 .int 0 [.ref h] (CW cc h ad a2 S S2) (sX11_breakAt S S2 ) (CW cc h ad a2 S S2) := by
  refine CtI.of (plainFor_of_name (by decide +kernel)) rfl (Nat.le_of_ble_eq_true rfl) ?_
  intro p e s m args below meth c A Q hC hW hend ls hl
  obtain ⟨⟨hx, hb, hml, hown, hts⟩, hNW⟩ := id hC
  unfold CW at hW hend
  have hl : lv_has ls 1 [(0, .ref h)] := hl
  refine lv_aload_n hx hb dX11_breakAt_0 rfl (lv_at hl 0 rfl) ?_
  refine q_get hC hW kX11_12 0 (ap_g1 (ap_g1 rfl)) (v := .ref (ad 0)) rfl dX11_breakAt_1 ?_
  refine q_get hC hW kX11_168 (1 + 0) (ap_g1 (ap_g2 rfl (Lg0 cc ad S))) (v := .int (S.1 0 3)) rfl dX11_breakAt_4 ?_
  exact hend _ _ _ _ _ _ (by unfold sX11_breakAt; rfl) rfl hW dX11_breakAt_7
