theorem in_nat {a b c : Nat} (h1 : b ≤ a) (h2 : a ≤ c) (hc : c < 2 ^ 31) : sX12_in (lN a) (lN b) (lN c) = nI 1 := by
  unfold sX12_in
  rw [if_neg (fun q => by have := (lN_lt (by omega) (by omega)).mp q; omega), if_neg (fun q => by have := (lN_lt (by omega) (by omega)).mp q; omega)]
  rfl
theorem noSpan_0 (S : St) (j : Nat) (hI : InvM S) (hj : j < cN S) : sX12_noSpan S (nI j) = nI 0 := by
  obtain ⟨⟨h1, b1, b2⟩, -⟩ := hI
  unfold sX12_noSpan
  rw [h1, nI_l (by omega), nI_l (by omega), lN_sub1 b1]
  have h0 : sX12_in (lN j) 0 (lN (cN S - 1)) = nI 1 := in_nat (b := 0) (by omega) (by omega) (by omega)
  rw [h0]
  rfl
def sX12_reset (S : St) (x : Int32) : Int32 := (if (sX12_isLength x) = 0 then (-1000002) else ((S.2 11 48).toInt32))
def sX12_reset_S (S : St) (x : Int32) : St := (if (sX12_isLength x) = 0 then S else (sX12_begin_S S x))
set_option maxHeartbeats 4000000 in
set_option maxRecDepth 100000 in
theorem c_X12_reset (l : Launch) (D : va_G) (cc : Nat → ClassId) (ad : Nat → Nat) (S : St) (x : Int32) : CtI l D cc yX12_reset cX12_reset 3 .int 2 [.ref (ad 0), .int x] (MW cc ad S) (sX12_reset S x) (MW cc ad (sX12_reset_S S x)) := by
  refine CtI.of (plainFor_of_name (by decide +kernel)) rfl (Nat.le_of_ble_eq_true rfl) ?_
  intro p e s m args below meth c A Q hC hW hend ls hl
  obtain ⟨⟨hx, hb, hml, hown, hts⟩, hNW⟩ := id hC
  have hl : lv_has ls 3 [(0, .ref (ad 0)), (1, .int x)] := hl
  refine lv_iload_n hx hb dX12_reset_0 rfl (lv_at hl 1 rfl) ?_
  refine q_SI hC hW (c_X12_isLength l D cc _ x) mX12_122 (by decide) rfl hl.1 rfl (Nat.le_of_ble_eq_true rfl) (by decide) dX12_reset_1 (fun H locs hW => ?_)
  refine lv_if_ne (tgt := 10) hx hb dX12_reset_4 (by decide) (fun c_4 => ?_) (fun c_4 => ?_)
  · skip
    refine lv_aload_n hx hb dX12_reset_10 rfl (lv_at hl 0 rfl) ?_
    refine q_get hC hW kX12_41 0 (Mg0 cc ad S) (v := .ref (ad 11)) rfl dX12_reset_11 ?_
    refine lv_bipush (v := 48) hx hb dX12_reset_14 (by decide) ?_
    refine q_lald hC hW 11 (Mg11 cc ad S) (v := (S.2 11 48)) 48 rfl (by omega) (by decide) rfl dX12_reset_16 ?_
    refine lv_l2i hx hb dX12_reset_17 rfl ?_
    refine lv_istore_n (lv' := [(2, .int ((S.2 11 48).toInt32)), (0, .ref (ad 0)), (1, .int x)]) hx hb dX12_reset_18 rfl hl (by decide) rfl (fun ls hl => ?_)
    refine lv_aload_n hx hb dX12_reset_19 rfl (lv_at hl 1 rfl) ?_
    refine lv_iload_n hx hb dX12_reset_20 rfl (lv_at hl 2 rfl) ?_
    refine q_VV hC hW (c_X12_begin l D cc ad S x) mX12_63 0 (Mg0 cc ad S) rfl (by decide) rfl hl.1 rfl (Nat.le_of_ble_eq_true rfl) (by decide) dX12_reset_21 (fun H locs hW => ?_)
    refine lv_iload_n hx hb dX12_reset_24 rfl (lv_at hl 0 rfl) ?_
    exact hend _ _ _ _ _ _ (by simp only [sX12_reset, if_neg c_4]) (by simp only [sX12_reset_S, if_neg c_4]) hW dX12_reset_25
  · skip
    refine q_ldc hC nX12_126 dX12_reset_7 ?_
    exact hend _ _ _ _ _ _ (by simp only [sX12_reset, if_pos c_4]) (by simp only [sX12_reset_S, if_pos c_4]) hW dX12_reset_9
def sX12_addSpan (S : St) (x : Int32) : Int32 := (if (sX12_isLength x) = 0 then (-1000002) else (if (S.2 11 48) ≤ 0 then (if (cN S) = 6 then (-1000004) else (((sX12_append_S S x (cN S)).1 0 0) - 1)) else (-1000003)))
def sX12_addSpan_S (S : St) (x : Int32) : St := (if (sX12_isLength x) = 0 then S else (if (S.2 11 48) ≤ 0 then (if (cN S) = 6 then S else (sX12_append_S S x (cN S))) else S))
set_option maxHeartbeats 4000000 in
set_option maxRecDepth 100000 in
theorem c_X12_addSpan (l : Launch) (D : va_G) (cc : Nat → ClassId) (ad : Nat → Nat) (S : St) (x : Int32) (hI : InvM S) : CtI l D cc yX12_addSpan cX12_addSpan 2 .int 2 [.ref (ad 0), .int x] (MW cc ad S) (sX12_addSpan S x) (MW cc ad (sX12_addSpan_S S x)) := by
  refine CtI.of (plainFor_of_name (by decide +kernel)) rfl (Nat.le_of_ble_eq_true rfl) ?_
  intro p e s m args below meth c A Q hC hW hend ls hl
  obtain ⟨⟨hx, hb, hml, hown, hts⟩, hNW⟩ := id hC
  have hl : lv_has ls 2 [(0, .ref (ad 0)), (1, .int x)] := hl
  obtain ⟨⟨-, hn1_hI, hn2_hI⟩, ⟨-, hq_hI⟩, -, ⟨-, hh_hI⟩, hs_hI⟩ := id hI
  refine lv_iload_n hx hb dX12_addSpan_0 rfl (lv_at hl 1 rfl) ?_
  refine q_SI hC hW (c_X12_isLength l D cc _ x) mX12_122 (by decide) rfl hl.1 rfl (Nat.le_of_ble_eq_true rfl) (by decide) dX12_addSpan_1 (fun H locs hW => ?_)
  refine lv_if_ne (tgt := 10) hx hb dX12_addSpan_4 (by decide) (fun c_4 => ?_) (fun c_4 => ?_)
  · skip
    refine lv_aload_n hx hb dX12_addSpan_10 rfl (lv_at hl 0 rfl) ?_
    refine q_get hC hW kX12_41 0 (Mg0 cc ad S) (v := .ref (ad 11)) rfl dX12_addSpan_11 ?_
    refine lv_bipush (v := 48) hx hb dX12_addSpan_14 (by decide) ?_
    refine q_lald hC hW 11 (Mg11 cc ad S) (v := (S.2 11 48)) 48 rfl (by omega) (by decide) rfl dX12_addSpan_16 ?_
    refine lv_lconst (v := 0) hx hb dX12_addSpan_17 rfl ?_
    refine q_jle (tgt := 25) hC dX12_addSpan_18 dX12_addSpan_19 (by decide) (fun c_18 => ?_) (fun c_18 => ?_)
    · skip
      refine lv_aload_n hx hb dX12_addSpan_25 rfl (lv_at hl 0 rfl) ?_
      refine q_get hC hW kX12_69 0 (Mg0 cc ad S) (v := .int (nI (cN S))) (congrArg (fun z => some (Value.int z)) hI.1.1) dX12_addSpan_26 ?_
      refine lv_bipush (v := 6) hx hb dX12_addSpan_29 (by decide) ?_
      refine q_icmp_ne_n (tgt := 37) hx hb (a := (cN S)) (b := 6) rfl rfl (by omega) (by omega) dX12_addSpan_31 (by decide) (fun c_31 => ?_) (fun c_31 => ?_)
      · skip
        refine lv_aload_n hx hb dX12_addSpan_37 rfl (lv_at hl 0 rfl) ?_
        refine lv_iload_n hx hb dX12_addSpan_38 rfl (lv_at hl 1 rfl) ?_
        refine q_VV hC hW (c_X12_append l D cc ad S x (cN S) hI.1.1 (by omega)) mX12_111 0 (Mg0 cc ad S) rfl (by decide) rfl hl.1 rfl (Nat.le_of_ble_eq_true rfl) (by decide) dX12_addSpan_39 (fun H locs hW => ?_)
        refine lv_aload_n hx hb dX12_addSpan_42 rfl (lv_at hl 0 rfl) ?_
        refine q_get hC hW kX12_69 0 (Mg0 cc ad (sX12_append_S S x (cN S))) (v := .int ((sX12_append_S S x (cN S)).1 0 0)) rfl dX12_addSpan_43 ?_
        refine lv_iconst (v := 1) hx hb dX12_addSpan_46 (by decide) ?_
        refine lv_isub hx hb dX12_addSpan_47 ?_
        exact hend _ _ _ _ _ _ (by simp only [sX12_addSpan, if_neg c_4, if_pos c_18, if_neg c_31]) (by simp only [sX12_addSpan_S, if_neg c_4, if_pos c_18, if_neg c_31]) hW dX12_addSpan_48
      · skip
        refine q_ldc hC nX12_128 dX12_addSpan_34 ?_
        exact hend _ _ _ _ _ _ (by simp only [sX12_addSpan, if_neg c_4, if_pos c_18, if_pos c_31]) (by simp only [sX12_addSpan_S, if_neg c_4, if_pos c_18, if_pos c_31]) hW dX12_addSpan_36
    · skip
      refine q_ldc hC nX12_127 dX12_addSpan_22 ?_
      exact hend _ _ _ _ _ _ (by simp only [sX12_addSpan, if_neg c_4, if_neg c_18]) (by simp only [sX12_addSpan_S, if_neg c_4, if_neg c_18]) hW dX12_addSpan_24
  · skip
    refine q_ldc hC nX12_126 dX12_addSpan_7 ?_
    exact hend _ _ _ _ _ _ (by simp only [sX12_addSpan, if_pos c_4]) (by simp only [sX12_addSpan_S, if_pos c_4]) hW dX12_addSpan_9
def sX12_setDancer (S : St) (j : Nat) (x2 : Int32) (x3 : Int32) (x4 : Int32) (x5 : Int32) (x6 : Int32) : Int32 := (if (sX12_in (x2.toInt64) 2 100000) = 0 then (-1000002) else (if (sX12_in (x3.toInt64) 0 1000000) = 0 then (-1000002) else (if (sX12_in (x4.toInt64) 1 100000) = 0 then (-1000002) else (if (sX12_in (x5.toInt64) (-1000) 1000) = 0 then (-1000002) else (if (sX12_in (x6.toInt64) (-1000) 1000) = 0 then (-1000002) else (if (S.2 11 48) ≤ 0 then (sX12_equip (sJ (sJ (sJ (sJ (sJ S 3 j (x2.toInt64)) 4 j (x3.toInt64)) 5 j (x4.toInt64)) 6 j (x5.toInt64)) 7 j (x6.toInt64)) j 1) else (-1000003)))))))
def sX12_setDancer_S (S : St) (j : Nat) (x2 : Int32) (x3 : Int32) (x4 : Int32) (x5 : Int32) (x6 : Int32) : St := (if (sX12_in (x2.toInt64) 2 100000) = 0 then S else (if (sX12_in (x3.toInt64) 0 1000000) = 0 then S else (if (sX12_in (x4.toInt64) 1 100000) = 0 then S else (if (sX12_in (x5.toInt64) (-1000) 1000) = 0 then S else (if (sX12_in (x6.toInt64) (-1000) 1000) = 0 then S else (if (S.2 11 48) ≤ 0 then (sX12_equip_S (sJ (sJ (sJ (sJ (sJ S 3 j (x2.toInt64)) 4 j (x3.toInt64)) 5 j (x4.toInt64)) 6 j (x5.toInt64)) 7 j (x6.toInt64)) j 1) else S))))))
set_option maxHeartbeats 4000000 in
set_option maxRecDepth 100000 in
theorem c_X12_setDancer (l : Launch) (D : va_G) (cc : Nat → ClassId) (ad : Nat → Nat) (S : St) (j : Nat) (x2 : Int32) (x3 : Int32) (x4 : Int32) (x5 : Int32) (x6 : Int32) (hI : InvM S) (hj : j < cN S) : CtI l D cc yX12_setDancer cX12_setDancer 7 .int 2 [.ref (ad 0), .int (nI j), .int x2, .int x3, .int x4, .int x5, .int x6] (MW cc ad S) (sX12_setDancer S j x2 x3 x4 x5 x6) (MW cc ad (sX12_setDancer_S S j x2 x3 x4 x5 x6)) := by
  refine CtI.of (plainFor_of_name (by decide +kernel)) rfl (Nat.le_of_ble_eq_true rfl) ?_
  intro p e s m args below meth c A Q hC hW hend ls hl
  obtain ⟨⟨hx, hb, hml, hown, hts⟩, hNW⟩ := id hC
  have hl : lv_has ls 7 [(0, .ref (ad 0)), (1, .int (nI j)), (2, .int x2), (3, .int x3), (4, .int x4), (5, .int x5), (6, .int x6)] := hl
  obtain ⟨⟨-, hn1_hI, hn2_hI⟩, ⟨-, hq_hI⟩, -, ⟨-, hh_hI⟩, hs_hI⟩ := id hI
  refine lv_aload_n hx hb dX12_setDancer_0 rfl (lv_at hl 0 rfl) ?_
  refine lv_iload_n hx hb dX12_setDancer_1 rfl (lv_at hl 1 rfl) ?_
  refine q_VI hC hW (c_X12_noSpan l D cc ad S (nI j)) mX12_135 0 (Mg0 cc ad S) rfl (by decide) rfl hl.1 rfl (Nat.le_of_ble_eq_true rfl) (by decide) dX12_setDancer_2 (fun H locs hW => ?_)
  refine q_ri (v := nI 0) (noSpan_0 S j hI hj) ?_
  refine q_if_eq_n (tgt := 11) hx hb (a := 0) rfl (by omega) dX12_setDancer_5 (by decide) (fun c_5 => ?_) (fun c_5 => by exfalso; omega)
  refine lv_iload_n hx hb dX12_setDancer_11 rfl (lv_at hl 2 rfl) ?_
  refine lv_i2l hx hb dX12_setDancer_12 rfl ?_
  refine q_ldc2 hC nX12_129 dX12_setDancer_13 ?_
  refine q_ldc2 hC nX12_114 dX12_setDancer_16 ?_
  refine q_SI hC hW (c_X12_in l D cc _ (x2.toInt64) 2 100000) mX12_118 (by decide) rfl hl.1 rfl (Nat.le_of_ble_eq_true rfl) (by decide) dX12_setDancer_19 (fun H locs hW => ?_)
  refine lv_if_eq (tgt := 80) hx hb dX12_setDancer_22 (by decide) (fun c_22 => ?_) (fun c_22 => ?_)
  · skip
    refine q_ldc hC nX12_126 dX12_setDancer_80 ?_
    exact hend _ _ _ _ _ _ (by simp only [sX12_setDancer, if_pos c_22]) (by simp only [sX12_setDancer_S, if_pos c_22]) hW dX12_setDancer_82
  · skip
    refine lv_iload_n hx hb dX12_setDancer_25 rfl (lv_at hl 3 rfl) ?_
    refine lv_i2l hx hb dX12_setDancer_26 rfl ?_
    refine lv_lconst (v := 0) hx hb dX12_setDancer_27 rfl ?_
    refine q_ldc2 hC nX12_73 dX12_setDancer_28 ?_
    refine q_SI hC hW (c_X12_in l D cc _ (x3.toInt64) 0 1000000) mX12_118 (by decide) rfl hl.1 rfl (Nat.le_of_ble_eq_true rfl) (by decide) dX12_setDancer_31 (fun H locs hW => ?_)
    refine lv_if_eq (tgt := 80) hx hb dX12_setDancer_34 (by decide) (fun c_34 => ?_) (fun c_34 => ?_)
    · skip
      refine q_ldc hC nX12_126 dX12_setDancer_80 ?_
      exact hend _ _ _ _ _ _ (by simp only [sX12_setDancer, if_neg c_22, if_pos c_34]) (by simp only [sX12_setDancer_S, if_neg c_22, if_pos c_34]) hW dX12_setDancer_82
    · skip
      refine lv_iload hx hb dX12_setDancer_37 (lv_at hl 4 rfl) ?_
      refine lv_i2l hx hb dX12_setDancer_39 rfl ?_
      refine lv_lconst (v := 1) hx hb dX12_setDancer_40 rfl ?_
      refine q_ldc2 hC nX12_114 dX12_setDancer_41 ?_
      refine q_SI hC hW (c_X12_in l D cc _ (x4.toInt64) 1 100000) mX12_118 (by decide) rfl hl.1 rfl (Nat.le_of_ble_eq_true rfl) (by decide) dX12_setDancer_44 (fun H locs hW => ?_)
      refine lv_if_eq (tgt := 80) hx hb dX12_setDancer_47 (by decide) (fun c_47 => ?_) (fun c_47 => ?_)
      · skip
        refine q_ldc hC nX12_126 dX12_setDancer_80 ?_
        exact hend _ _ _ _ _ _ (by simp only [sX12_setDancer, if_neg c_22, if_neg c_34, if_pos c_47]) (by simp only [sX12_setDancer_S, if_neg c_22, if_neg c_34, if_pos c_47]) hW dX12_setDancer_82
      · skip
        refine lv_iload hx hb dX12_setDancer_50 (lv_at hl 5 rfl) ?_
        refine lv_i2l hx hb dX12_setDancer_52 rfl ?_
        refine q_ldc2 hC nX12_139 dX12_setDancer_53 ?_
        refine q_ldc2 hC nX12_98 dX12_setDancer_56 ?_
        refine q_SI hC hW (c_X12_in l D cc _ (x5.toInt64) (-1000) 1000) mX12_118 (by decide) rfl hl.1 rfl (Nat.le_of_ble_eq_true rfl) (by decide) dX12_setDancer_59 (fun H locs hW => ?_)
        refine lv_if_eq (tgt := 80) hx hb dX12_setDancer_62 (by decide) (fun c_62 => ?_) (fun c_62 => ?_)
        · skip
          refine q_ldc hC nX12_126 dX12_setDancer_80 ?_
          exact hend _ _ _ _ _ _ (by simp only [sX12_setDancer, if_neg c_22, if_neg c_34, if_neg c_47, if_pos c_62]) (by simp only [sX12_setDancer_S, if_neg c_22, if_neg c_34, if_neg c_47, if_pos c_62]) hW dX12_setDancer_82
        · skip
          refine lv_iload hx hb dX12_setDancer_65 (lv_at hl 6 rfl) ?_
          refine lv_i2l hx hb dX12_setDancer_67 rfl ?_
          refine q_ldc2 hC nX12_139 dX12_setDancer_68 ?_
          refine q_ldc2 hC nX12_98 dX12_setDancer_71 ?_
          refine q_SI hC hW (c_X12_in l D cc _ (x6.toInt64) (-1000) 1000) mX12_118 (by decide) rfl hl.1 rfl (Nat.le_of_ble_eq_true rfl) (by decide) dX12_setDancer_74 (fun H locs hW => ?_)
          refine lv_if_ne (tgt := 83) hx hb dX12_setDancer_77 (by decide) (fun c_77 => ?_) (fun c_77 => ?_)
          · skip
            refine lv_aload_n hx hb dX12_setDancer_83 rfl (lv_at hl 0 rfl) ?_
            refine q_get hC hW kX12_41 0 (Mg0 cc ad S) (v := .ref (ad 11)) rfl dX12_setDancer_84 ?_
            refine lv_bipush (v := 48) hx hb dX12_setDancer_87 (by decide) ?_
            refine q_lald hC hW 11 (Mg11 cc ad S) (v := (S.2 11 48)) 48 rfl (by omega) (by decide) rfl dX12_setDancer_89 ?_
            refine lv_lconst (v := 0) hx hb dX12_setDancer_90 rfl ?_
            refine q_jle (tgt := 98) hC dX12_setDancer_91 dX12_setDancer_92 (by decide) (fun c_91 => ?_) (fun c_91 => ?_)
            · skip
              refine lv_aload_n hx hb dX12_setDancer_98 rfl (lv_at hl 0 rfl) ?_
              refine q_get hC hW kX12_17 0 (Mg0 cc ad S) (v := .ref (ad 3)) rfl dX12_setDancer_99 ?_
              refine lv_iload_n hx hb dX12_setDancer_102 rfl (lv_at hl 1 rfl) ?_
              refine lv_iload_n hx hb dX12_setDancer_103 rfl (lv_at hl 2 rfl) ?_
              refine lv_i2l hx hb dX12_setDancer_104 rfl ?_
              refine q_last hC hW 3 (Mg3 cc ad S) j rfl (by omega) (by decide) (Ms3 cc ad S j (x2.toInt64)) dX12_setDancer_105 (fun H locs hW => ?_)
              refine lv_aload_n hx hb dX12_setDancer_106 rfl (lv_at hl 0 rfl) ?_
              refine q_get hC hW kX12_20 0 (Mg0 cc ad (sJ S 3 j (x2.toInt64))) (v := .ref (ad 4)) rfl dX12_setDancer_107 ?_
              refine lv_iload_n hx hb dX12_setDancer_110 rfl (lv_at hl 1 rfl) ?_
              refine lv_iload_n hx hb dX12_setDancer_111 rfl (lv_at hl 3 rfl) ?_
              refine lv_i2l hx hb dX12_setDancer_112 rfl ?_
              refine q_last hC hW 4 (Mg4 cc ad (sJ S 3 j (x2.toInt64))) j rfl (by omega) (by decide) (Ms4 cc ad (sJ S 3 j (x2.toInt64)) j (x3.toInt64)) dX12_setDancer_113 (fun H locs hW => ?_)
              refine lv_aload_n hx hb dX12_setDancer_114 rfl (lv_at hl 0 rfl) ?_
              refine q_get hC hW kX12_23 0 (Mg0 cc ad (sJ (sJ S 3 j (x2.toInt64)) 4 j (x3.toInt64))) (v := .ref (ad 5)) rfl dX12_setDancer_115 ?_
              refine lv_iload_n hx hb dX12_setDancer_118 rfl (lv_at hl 1 rfl) ?_
              refine lv_iload hx hb dX12_setDancer_119 (lv_at hl 4 rfl) ?_
              refine lv_i2l hx hb dX12_setDancer_121 rfl ?_
              refine q_last hC hW 5 (Mg5 cc ad (sJ (sJ S 3 j (x2.toInt64)) 4 j (x3.toInt64))) j rfl (by omega) (by decide) (Ms5 cc ad (sJ (sJ S 3 j (x2.toInt64)) 4 j (x3.toInt64)) j (x4.toInt64)) dX12_setDancer_122 (fun H locs hW => ?_)
              refine lv_aload_n hx hb dX12_setDancer_123 rfl (lv_at hl 0 rfl) ?_
              refine q_get hC hW kX12_26 0 (Mg0 cc ad (sJ (sJ (sJ S 3 j (x2.toInt64)) 4 j (x3.toInt64)) 5 j (x4.toInt64))) (v := .ref (ad 6)) rfl dX12_setDancer_124 ?_
              refine lv_iload_n hx hb dX12_setDancer_127 rfl (lv_at hl 1 rfl) ?_
              refine lv_iload hx hb dX12_setDancer_128 (lv_at hl 5 rfl) ?_
              refine lv_i2l hx hb dX12_setDancer_130 rfl ?_
              refine q_last hC hW 6 (Mg6 cc ad (sJ (sJ (sJ S 3 j (x2.toInt64)) 4 j (x3.toInt64)) 5 j (x4.toInt64))) j rfl (by omega) (by decide) (Ms6 cc ad (sJ (sJ (sJ S 3 j (x2.toInt64)) 4 j (x3.toInt64)) 5 j (x4.toInt64)) j (x5.toInt64)) dX12_setDancer_131 (fun H locs hW => ?_)
              refine lv_aload_n hx hb dX12_setDancer_132 rfl (lv_at hl 0 rfl) ?_
              refine q_get hC hW kX12_29 0 (Mg0 cc ad (sJ (sJ (sJ (sJ S 3 j (x2.toInt64)) 4 j (x3.toInt64)) 5 j (x4.toInt64)) 6 j (x5.toInt64))) (v := .ref (ad 7)) rfl dX12_setDancer_133 ?_
              refine lv_iload_n hx hb dX12_setDancer_136 rfl (lv_at hl 1 rfl) ?_
              refine lv_iload hx hb dX12_setDancer_137 (lv_at hl 6 rfl) ?_
              refine lv_i2l hx hb dX12_setDancer_139 rfl ?_
              refine q_last hC hW 7 (Mg7 cc ad (sJ (sJ (sJ (sJ S 3 j (x2.toInt64)) 4 j (x3.toInt64)) 5 j (x4.toInt64)) 6 j (x5.toInt64))) j rfl (by omega) (by decide) (Ms7 cc ad (sJ (sJ (sJ (sJ S 3 j (x2.toInt64)) 4 j (x3.toInt64)) 5 j (x4.toInt64)) 6 j (x5.toInt64)) j (x6.toInt64)) dX12_setDancer_140 (fun H locs hW => ?_)
              refine lv_aload_n hx hb dX12_setDancer_141 rfl (lv_at hl 0 rfl) ?_
              refine lv_iload_n hx hb dX12_setDancer_142 rfl (lv_at hl 1 rfl) ?_
              refine lv_iconst (v := 1) hx hb dX12_setDancer_143 (by decide) ?_
              refine q_VI hC hW (c_X12_equip l D cc ad (sJ (sJ (sJ (sJ (sJ S 3 j (x2.toInt64)) 4 j (x3.toInt64)) 5 j (x4.toInt64)) 6 j (x5.toInt64)) 7 j (x6.toInt64)) j 1 (by omega)) mX12_141 0 (Mg0 cc ad (sJ (sJ (sJ (sJ (sJ S 3 j (x2.toInt64)) 4 j (x3.toInt64)) 5 j (x4.toInt64)) 6 j (x5.toInt64)) 7 j (x6.toInt64))) rfl (by decide) rfl hl.1 rfl (Nat.le_of_ble_eq_true rfl) (by decide) dX12_setDancer_144 (fun H locs hW => ?_)
              exact hend _ _ _ _ _ _ (by simp only [sX12_setDancer, if_neg c_22, if_neg c_34, if_neg c_47, if_neg c_62, if_neg c_77, if_pos c_91]) (by simp only [sX12_setDancer_S, if_neg c_22, if_neg c_34, if_neg c_47, if_neg c_62, if_neg c_77, if_pos c_91]) hW dX12_setDancer_147
            · skip
              refine q_ldc hC nX12_127 dX12_setDancer_95 ?_
              exact hend _ _ _ _ _ _ (by simp only [sX12_setDancer, if_neg c_22, if_neg c_34, if_neg c_47, if_neg c_62, if_neg c_77, if_neg c_91]) (by simp only [sX12_setDancer_S, if_neg c_22, if_neg c_34, if_neg c_47, if_neg c_62, if_neg c_77, if_neg c_91]) hW dX12_setDancer_97
          · skip
            refine q_ldc hC nX12_126 dX12_setDancer_80 ?_
            exact hend _ _ _ _ _ _ (by simp only [sX12_setDancer, if_neg c_22, if_neg c_34, if_neg c_47, if_neg c_62, if_pos c_77]) (by simp only [sX12_setDancer_S, if_neg c_22, if_neg c_34, if_neg c_47, if_neg c_62, if_pos c_77]) hW dX12_setDancer_82
def sX12_setDancer_no (S : St) (x : Int32) (x2 : Int32) (x3 : Int32) (x4 : Int32) (x5 : Int32) (x6 : Int32) : Int32 := (-1000001)
set_option maxHeartbeats 4000000 in
set_option maxRecDepth 100000 in
theorem c_X12_setDancer_no (l : Launch) (D : va_G) (cc : Nat → ClassId) (ad : Nat → Nat) (S : St) (x : Int32) (x2 : Int32) (x3 : Int32) (x4 : Int32) (x5 : Int32) (x6 : Int32) (hno : sX12_noSpan S x = 1) : CtI l D cc yX12_setDancer cX12_setDancer 7 .int 2 [.ref (ad 0), .int x, .int x2, .int x3, .int x4, .int x5, .int x6] (MW cc ad S) (sX12_setDancer_no S x x2 x3 x4 x5 x6) (MW cc ad S) := by
  refine CtI.of (plainFor_of_name (by decide +kernel)) rfl (Nat.le_of_ble_eq_true rfl) ?_
  intro p e s m args below meth c A Q hC hW hend ls hl
  obtain ⟨⟨hx, hb, hml, hown, hts⟩, hNW⟩ := id hC
  have hl : lv_has ls 7 [(0, .ref (ad 0)), (1, .int x), (2, .int x2), (3, .int x3), (4, .int x4), (5, .int x5), (6, .int x6)] := hl
  refine lv_aload_n hx hb dX12_setDancer_0 rfl (lv_at hl 0 rfl) ?_
  refine lv_iload_n hx hb dX12_setDancer_1 rfl (lv_at hl 1 rfl) ?_
  refine q_VI hC hW (c_X12_noSpan l D cc ad S x) mX12_135 0 (Mg0 cc ad S) rfl (by decide) rfl hl.1 rfl (Nat.le_of_ble_eq_true rfl) (by decide) dX12_setDancer_2 (fun H locs hW => ?_)
  refine q_ri (v := nI 1) hno ?_
  refine q_if_eq_n (tgt := 11) hx hb (a := 1) rfl (by omega) dX12_setDancer_5 (by decide) (fun c_5 => by exfalso; omega) (fun c_5 => ?_)
  refine q_ldc hC nX12_138 dX12_setDancer_8 ?_
  exact hend _ _ _ _ _ _ (by unfold sX12_setDancer_no; rfl) rfl hW dX12_setDancer_10
def sX12_setLoadCell (S : St) (j : Nat) (x2 : Int32) (x3 : Int32) : Int32 := (if (sX12_in (x2.toInt64) 0 1000000) = 0 then (-1000002) else (if (sX12_in (x3.toInt64) (-10000) 10000) = 0 then (-1000002) else (if (S.2 11 48) ≤ 0 then (sX12_equip (sJ (sJ S 8 j (x2.toInt64)) 9 j (x3.toInt64)) j 2) else (-1000003))))
def sX12_setLoadCell_S (S : St) (j : Nat) (x2 : Int32) (x3 : Int32) : St := (if (sX12_in (x2.toInt64) 0 1000000) = 0 then S else (if (sX12_in (x3.toInt64) (-10000) 10000) = 0 then S else (if (S.2 11 48) ≤ 0 then (sX12_equip_S (sJ (sJ S 8 j (x2.toInt64)) 9 j (x3.toInt64)) j 2) else S)))
set_option maxHeartbeats 4000000 in
set_option maxRecDepth 100000 in
theorem c_X12_setLoadCell (l : Launch) (D : va_G) (cc : Nat → ClassId) (ad : Nat → Nat) (S : St) (j : Nat) (x2 : Int32) (x3 : Int32) (hI : InvM S) (hj : j < cN S) : CtI l D cc yX12_setLoadCell cX12_setLoadCell 4 .int 2 [.ref (ad 0), .int (nI j), .int x2, .int x3] (MW cc ad S) (sX12_setLoadCell S j x2 x3) (MW cc ad (sX12_setLoadCell_S S j x2 x3)) := by
  refine CtI.of (plainFor_of_name (by decide +kernel)) rfl (Nat.le_of_ble_eq_true rfl) ?_
  intro p e s m args below meth c A Q hC hW hend ls hl
  obtain ⟨⟨hx, hb, hml, hown, hts⟩, hNW⟩ := id hC
  have hl : lv_has ls 4 [(0, .ref (ad 0)), (1, .int (nI j)), (2, .int x2), (3, .int x3)] := hl
  obtain ⟨⟨-, hn1_hI, hn2_hI⟩, ⟨-, hq_hI⟩, -, ⟨-, hh_hI⟩, hs_hI⟩ := id hI
  refine lv_aload_n hx hb dX12_setLoadCell_0 rfl (lv_at hl 0 rfl) ?_
  refine lv_iload_n hx hb dX12_setLoadCell_1 rfl (lv_at hl 1 rfl) ?_
  refine q_VI hC hW (c_X12_noSpan l D cc ad S (nI j)) mX12_135 0 (Mg0 cc ad S) rfl (by decide) rfl hl.1 rfl (Nat.le_of_ble_eq_true rfl) (by decide) dX12_setLoadCell_2 (fun H locs hW => ?_)
  refine q_ri (v := nI 0) (noSpan_0 S j hI hj) ?_
  refine q_if_eq_n (tgt := 11) hx hb (a := 0) rfl (by omega) dX12_setLoadCell_5 (by decide) (fun c_5 => ?_) (fun c_5 => by exfalso; omega)
  refine lv_iload_n hx hb dX12_setLoadCell_11 rfl (lv_at hl 2 rfl) ?_
  refine lv_i2l hx hb dX12_setLoadCell_12 rfl ?_
  refine lv_lconst (v := 0) hx hb dX12_setLoadCell_13 rfl ?_
  refine q_ldc2 hC nX12_73 dX12_setLoadCell_14 ?_
  refine q_SI hC hW (c_X12_in l D cc _ (x2.toInt64) 0 1000000) mX12_118 (by decide) rfl hl.1 rfl (Nat.le_of_ble_eq_true rfl) (by decide) dX12_setLoadCell_17 (fun H locs hW => ?_)
  refine lv_if_eq (tgt := 37) hx hb dX12_setLoadCell_20 (by decide) (fun c_20 => ?_) (fun c_20 => ?_)
  · skip
    refine q_ldc hC nX12_126 dX12_setLoadCell_37 ?_
    exact hend _ _ _ _ _ _ (by simp only [sX12_setLoadCell, if_pos c_20]) (by simp only [sX12_setLoadCell_S, if_pos c_20]) hW dX12_setLoadCell_39
  · skip
    refine lv_iload_n hx hb dX12_setLoadCell_23 rfl (lv_at hl 3 rfl) ?_
    refine lv_i2l hx hb dX12_setLoadCell_24 rfl ?_
    refine q_ldc2 hC nX12_145 dX12_setLoadCell_25 ?_
    refine q_ldc2 hC nX12_147 dX12_setLoadCell_28 ?_
    refine q_SI hC hW (c_X12_in l D cc _ (x3.toInt64) (-10000) 10000) mX12_118 (by decide) rfl hl.1 rfl (Nat.le_of_ble_eq_true rfl) (by decide) dX12_setLoadCell_31 (fun H locs hW => ?_)
    refine lv_if_ne (tgt := 40) hx hb dX12_setLoadCell_34 (by decide) (fun c_34 => ?_) (fun c_34 => ?_)
    · skip
      refine lv_aload_n hx hb dX12_setLoadCell_40 rfl (lv_at hl 0 rfl) ?_
      refine q_get hC hW kX12_41 0 (Mg0 cc ad S) (v := .ref (ad 11)) rfl dX12_setLoadCell_41 ?_
      refine lv_bipush (v := 48) hx hb dX12_setLoadCell_44 (by decide) ?_
      refine q_lald hC hW 11 (Mg11 cc ad S) (v := (S.2 11 48)) 48 rfl (by omega) (by decide) rfl dX12_setLoadCell_46 ?_
      refine lv_lconst (v := 0) hx hb dX12_setLoadCell_47 rfl ?_
      refine q_jle (tgt := 55) hC dX12_setLoadCell_48 dX12_setLoadCell_49 (by decide) (fun c_48 => ?_) (fun c_48 => ?_)
      · skip
        refine lv_aload_n hx hb dX12_setLoadCell_55 rfl (lv_at hl 0 rfl) ?_
        refine q_get hC hW kX12_32 0 (Mg0 cc ad S) (v := .ref (ad 8)) rfl dX12_setLoadCell_56 ?_
        refine lv_iload_n hx hb dX12_setLoadCell_59 rfl (lv_at hl 1 rfl) ?_
        refine lv_iload_n hx hb dX12_setLoadCell_60 rfl (lv_at hl 2 rfl) ?_
        refine lv_i2l hx hb dX12_setLoadCell_61 rfl ?_
        refine q_last hC hW 8 (Mg8 cc ad S) j rfl (by omega) (by decide) (Ms8 cc ad S j (x2.toInt64)) dX12_setLoadCell_62 (fun H locs hW => ?_)
        refine lv_aload_n hx hb dX12_setLoadCell_63 rfl (lv_at hl 0 rfl) ?_
        refine q_get hC hW kX12_35 0 (Mg0 cc ad (sJ S 8 j (x2.toInt64))) (v := .ref (ad 9)) rfl dX12_setLoadCell_64 ?_
        refine lv_iload_n hx hb dX12_setLoadCell_67 rfl (lv_at hl 1 rfl) ?_
        refine lv_iload_n hx hb dX12_setLoadCell_68 rfl (lv_at hl 3 rfl) ?_
        refine lv_i2l hx hb dX12_setLoadCell_69 rfl ?_
        refine q_last hC hW 9 (Mg9 cc ad (sJ S 8 j (x2.toInt64))) j rfl (by omega) (by decide) (Ms9 cc ad (sJ S 8 j (x2.toInt64)) j (x3.toInt64)) dX12_setLoadCell_70 (fun H locs hW => ?_)
        refine lv_aload_n hx hb dX12_setLoadCell_71 rfl (lv_at hl 0 rfl) ?_
        refine lv_iload_n hx hb dX12_setLoadCell_72 rfl (lv_at hl 1 rfl) ?_
        refine lv_iconst (v := 2) hx hb dX12_setLoadCell_73 (by decide) ?_
        refine q_VI hC hW (c_X12_equip l D cc ad (sJ (sJ S 8 j (x2.toInt64)) 9 j (x3.toInt64)) j 2 (by omega)) mX12_141 0 (Mg0 cc ad (sJ (sJ S 8 j (x2.toInt64)) 9 j (x3.toInt64))) rfl (by decide) rfl hl.1 rfl (Nat.le_of_ble_eq_true rfl) (by decide) dX12_setLoadCell_74 (fun H locs hW => ?_)
        exact hend _ _ _ _ _ _ (by simp only [sX12_setLoadCell, if_neg c_20, if_neg c_34, if_pos c_48]) (by simp only [sX12_setLoadCell_S, if_neg c_20, if_neg c_34, if_pos c_48]) hW dX12_setLoadCell_77
      · skip
        refine q_ldc hC nX12_127 dX12_setLoadCell_52 ?_
        exact hend _ _ _ _ _ _ (by simp only [sX12_setLoadCell, if_neg c_20, if_neg c_34, if_neg c_48]) (by simp only [sX12_setLoadCell_S, if_neg c_20, if_neg c_34, if_neg c_48]) hW dX12_setLoadCell_54
    · skip
      refine q_ldc hC nX12_126 dX12_setLoadCell_37 ?_
      exact hend _ _ _ _ _ _ (by simp only [sX12_setLoadCell, if_neg c_20, if_pos c_34]) (by simp only [sX12_setLoadCell_S, if_neg c_20, if_pos c_34]) hW dX12_setLoadCell_39
def sX12_setLoadCell_no (S : St) (x : Int32) (x2 : Int32) (x3 : Int32) : Int32 := (-1000001)
set_option maxHeartbeats 4000000 in
set_option maxRecDepth 100000 in
theorem c_X12_setLoadCell_no (l : Launch) (D : va_G) (cc : Nat → ClassId) (ad : Nat → Nat) (S : St) (x : Int32) (x2 : Int32) (x3 : Int32) (hno : sX12_noSpan S x = 1) : CtI l D cc yX12_setLoadCell cX12_setLoadCell 4 .int 2 [.ref (ad 0), .int x, .int x2, .int x3] (MW cc ad S) (sX12_setLoadCell_no S x x2 x3) (MW cc ad S) := by
  refine CtI.of (plainFor_of_name (by decide +kernel)) rfl (Nat.le_of_ble_eq_true rfl) ?_
  intro p e s m args below meth c A Q hC hW hend ls hl
  obtain ⟨⟨hx, hb, hml, hown, hts⟩, hNW⟩ := id hC
  have hl : lv_has ls 4 [(0, .ref (ad 0)), (1, .int x), (2, .int x2), (3, .int x3)] := hl
  refine lv_aload_n hx hb dX12_setLoadCell_0 rfl (lv_at hl 0 rfl) ?_
  refine lv_iload_n hx hb dX12_setLoadCell_1 rfl (lv_at hl 1 rfl) ?_
  refine q_VI hC hW (c_X12_noSpan l D cc ad S x) mX12_135 0 (Mg0 cc ad S) rfl (by decide) rfl hl.1 rfl (Nat.le_of_ble_eq_true rfl) (by decide) dX12_setLoadCell_2 (fun H locs hW => ?_)
  refine q_ri (v := nI 1) hno ?_
  refine q_if_eq_n (tgt := 11) hx hb (a := 1) rfl (by omega) dX12_setLoadCell_5 (by decide) (fun c_5 => by exfalso; omega) (fun c_5 => ?_)
  refine q_ldc hC nX12_138 dX12_setLoadCell_8 ?_
  exact hend _ _ _ _ _ _ (by unfold sX12_setLoadCell_no; rfl) rfl hW dX12_setLoadCell_10
def sX12_setWeb (S : St) (x : Int32) (y : Int32) : Int32 := (if (sX12_in (x.toInt64) 1000 10000000) = 0 then (-1000002) else (if (sX12_in (y.toInt64) 0 100000) = 0 then (-1000002) else (if (S.2 11 48) ≤ 0 then (if (S.2 0 0) = (x.toInt64) then (if (S.2 0 1) = (y.toInt64) then 0 else 1) else 1) else (-1000003))))
def sX12_setWeb_S (S : St) (x : Int32) (y : Int32) : St := (if (sX12_in (x.toInt64) 1000 10000000) = 0 then S else (if (sX12_in (y.toInt64) 0 100000) = 0 then S else (if (S.2 11 48) ≤ 0 then (sJ (sJ S 0 0 (x.toInt64)) 0 1 (y.toInt64)) else S)))
set_option maxHeartbeats 4000000 in
set_option maxRecDepth 100000 in
theorem c_X12_setWeb (l : Launch) (D : va_G) (cc : Nat → ClassId) (ad : Nat → Nat) (S : St) (x : Int32) (y : Int32) : CtI l D cc yX12_setWeb cX12_setWeb 4 .int 1 [.ref (ad 0), .int x, .int y] (MW cc ad S) (sX12_setWeb S x y) (MW cc ad (sX12_setWeb_S S x y)) := by
  refine CtI.of (plainFor_of_name (by decide +kernel)) rfl (Nat.le_of_ble_eq_true rfl) ?_
  intro p e s m args below meth c A Q hC hW hend ls hl
  obtain ⟨⟨hx, hb, hml, hown, hts⟩, hNW⟩ := id hC
  have hl : lv_has ls 4 [(0, .ref (ad 0)), (1, .int x), (2, .int y)] := hl
  refine lv_iload_n hx hb dX12_setWeb_0 rfl (lv_at hl 1 rfl) ?_
  refine lv_i2l hx hb dX12_setWeb_1 rfl ?_
  refine q_ldc2 hC nX12_98 dX12_setWeb_2 ?_
  refine q_ldc2 hC nX12_116 dX12_setWeb_5 ?_
  refine q_SI hC hW (c_X12_in l D cc _ (x.toInt64) 1000 10000000) mX12_118 (by decide) rfl hl.1 rfl (Nat.le_of_ble_eq_true rfl) (by decide) dX12_setWeb_8 (fun H locs hW => ?_)
  refine lv_if_eq (tgt := 26) hx hb dX12_setWeb_11 (by decide) (fun c_11 => ?_) (fun c_11 => ?_)
  · skip
    refine q_ldc hC nX12_126 dX12_setWeb_26 ?_
    exact hend _ _ _ _ _ _ (by simp only [sX12_setWeb, if_pos c_11]) (by simp only [sX12_setWeb_S, if_pos c_11]) hW dX12_setWeb_28
  · skip
    refine lv_iload_n hx hb dX12_setWeb_14 rfl (lv_at hl 2 rfl) ?_
    refine lv_i2l hx hb dX12_setWeb_15 rfl ?_
    refine lv_lconst (v := 0) hx hb dX12_setWeb_16 rfl ?_
    refine q_ldc2 hC nX12_114 dX12_setWeb_17 ?_
    refine q_SI hC hW (c_X12_in l D cc _ (y.toInt64) 0 100000) mX12_118 (by decide) rfl hl.1 rfl (Nat.le_of_ble_eq_true rfl) (by decide) dX12_setWeb_20 (fun H locs hW => ?_)
    refine lv_if_ne (tgt := 29) hx hb dX12_setWeb_23 (by decide) (fun c_23 => ?_) (fun c_23 => ?_)
    · skip
      refine lv_aload_n hx hb dX12_setWeb_29 rfl (lv_at hl 0 rfl) ?_
      refine q_get hC hW kX12_41 0 (Mg0 cc ad S) (v := .ref (ad 11)) rfl dX12_setWeb_30 ?_
      refine lv_bipush (v := 48) hx hb dX12_setWeb_33 (by decide) ?_
      refine q_lald hC hW 11 (Mg11 cc ad S) (v := (S.2 11 48)) 48 rfl (by omega) (by decide) rfl dX12_setWeb_35 ?_
      refine lv_lconst (v := 0) hx hb dX12_setWeb_36 rfl ?_
      refine q_jle (tgt := 44) hC dX12_setWeb_37 dX12_setWeb_38 (by decide) (fun c_37 => ?_) (fun c_37 => ?_)
      · skip
        refine lv_aload_n hx hb dX12_setWeb_44 rfl (lv_at hl 0 rfl) ?_
        refine q_get hC hW kX12_75 0 (Mg0 cc ad S) (v := .long (S.2 0 0)) rfl dX12_setWeb_45 ?_
        refine lv_iload_n hx hb dX12_setWeb_48 rfl (lv_at hl 1 rfl) ?_
        refine lv_i2l hx hb dX12_setWeb_49 rfl ?_
        refine q_jne (tgt := 64) hC dX12_setWeb_50 dX12_setWeb_51 (by decide) (fun c_50 => ?_) (fun c_50 => ?_)
        · skip
          refine lv_iconst (v := 1) hx hb dX12_setWeb_64 (by decide) ?_
          refine lv_goto (tgt := 69) hx hb dX12_setWeb_65 (by decide) ?_
          refine lv_istore_n (lv' := [(3, .int 1), (0, .ref (ad 0)), (1, .int x), (2, .int y)]) hx hb dX12_setWeb_69 rfl hl (by decide) rfl (fun ls hl => ?_)
          refine lv_aload_n hx hb dX12_setWeb_70 rfl (lv_at hl 1 rfl) ?_
          refine lv_iload_n hx hb dX12_setWeb_71 rfl (lv_at hl 2 rfl) ?_
          refine lv_i2l hx hb dX12_setWeb_72 rfl ?_
          refine q_putL hC hW kX12_75 0 (Mg0 cc ad S) (Ms0_11 cc ad S (x.toInt64)) (Nat.le_of_ble_eq_true rfl) dX12_setWeb_73 (fun H locs hW => ?_)
          refine lv_aload_n hx hb dX12_setWeb_76 rfl (lv_at hl 1 rfl) ?_
          refine lv_iload_n hx hb dX12_setWeb_77 rfl (lv_at hl 3 rfl) ?_
          refine lv_i2l hx hb dX12_setWeb_78 rfl ?_
          refine q_putL hC hW kX12_79 0 (Mg0 cc ad (sJ S 0 0 (x.toInt64))) (Ms0_12 cc ad (sJ S 0 0 (x.toInt64)) (y.toInt64)) (Nat.le_of_ble_eq_true rfl) dX12_setWeb_79 (fun H locs hW => ?_)
          refine lv_iload_n hx hb dX12_setWeb_82 rfl (lv_at hl 0 rfl) ?_
          exact hend _ _ _ _ _ _ (by simp only [sX12_setWeb, if_neg c_11, if_neg c_23, if_pos c_37, if_neg c_50]) (by simp only [sX12_setWeb_S, if_neg c_11, if_neg c_23, if_pos c_37, if_neg c_50]) hW dX12_setWeb_83
        · skip
          refine lv_aload_n hx hb dX12_setWeb_54 rfl (lv_at hl 0 rfl) ?_
          refine q_get hC hW kX12_79 0 (Mg0 cc ad S) (v := .long (S.2 0 1)) rfl dX12_setWeb_55 ?_
          refine lv_iload_n hx hb dX12_setWeb_58 rfl (lv_at hl 2 rfl) ?_
          refine lv_i2l hx hb dX12_setWeb_59 rfl ?_
          refine q_jeq (tgt := 68) hC dX12_setWeb_60 dX12_setWeb_61 (by decide) (fun c_60 => ?_) (fun c_60 => ?_)
          · skip
            refine lv_iconst (v := 0) hx hb dX12_setWeb_68 (by decide) ?_
            refine lv_istore_n (lv' := [(3, .int 0), (0, .ref (ad 0)), (1, .int x), (2, .int y)]) hx hb dX12_setWeb_69 rfl hl (by decide) rfl (fun ls hl => ?_)
            refine lv_aload_n hx hb dX12_setWeb_70 rfl (lv_at hl 1 rfl) ?_
            refine lv_iload_n hx hb dX12_setWeb_71 rfl (lv_at hl 2 rfl) ?_
            refine lv_i2l hx hb dX12_setWeb_72 rfl ?_
            refine q_putL hC hW kX12_75 0 (Mg0 cc ad S) (Ms0_11 cc ad S (x.toInt64)) (Nat.le_of_ble_eq_true rfl) dX12_setWeb_73 (fun H locs hW => ?_)
            refine lv_aload_n hx hb dX12_setWeb_76 rfl (lv_at hl 1 rfl) ?_
            refine lv_iload_n hx hb dX12_setWeb_77 rfl (lv_at hl 3 rfl) ?_
            refine lv_i2l hx hb dX12_setWeb_78 rfl ?_
            refine q_putL hC hW kX12_79 0 (Mg0 cc ad (sJ S 0 0 (x.toInt64))) (Ms0_12 cc ad (sJ S 0 0 (x.toInt64)) (y.toInt64)) (Nat.le_of_ble_eq_true rfl) dX12_setWeb_79 (fun H locs hW => ?_)
            refine lv_iload_n hx hb dX12_setWeb_82 rfl (lv_at hl 0 rfl) ?_
            exact hend _ _ _ _ _ _ (by simp only [sX12_setWeb, if_neg c_11, if_neg c_23, if_pos c_37, if_pos c_50, if_pos c_60]) (by simp only [sX12_setWeb_S, if_neg c_11, if_neg c_23, if_pos c_37, if_pos c_50, if_pos c_60]) hW dX12_setWeb_83
          · skip
            refine lv_iconst (v := 1) hx hb dX12_setWeb_64 (by decide) ?_
            refine lv_goto (tgt := 69) hx hb dX12_setWeb_65 (by decide) ?_
            refine lv_istore_n (lv' := [(3, .int 1), (0, .ref (ad 0)), (1, .int x), (2, .int y)]) hx hb dX12_setWeb_69 rfl hl (by decide) rfl (fun ls hl => ?_)
            refine lv_aload_n hx hb dX12_setWeb_70 rfl (lv_at hl 1 rfl) ?_
            refine lv_iload_n hx hb dX12_setWeb_71 rfl (lv_at hl 2 rfl) ?_
            refine lv_i2l hx hb dX12_setWeb_72 rfl ?_
            refine q_putL hC hW kX12_75 0 (Mg0 cc ad S) (Ms0_11 cc ad S (x.toInt64)) (Nat.le_of_ble_eq_true rfl) dX12_setWeb_73 (fun H locs hW => ?_)
            refine lv_aload_n hx hb dX12_setWeb_76 rfl (lv_at hl 1 rfl) ?_
            refine lv_iload_n hx hb dX12_setWeb_77 rfl (lv_at hl 3 rfl) ?_
            refine lv_i2l hx hb dX12_setWeb_78 rfl ?_
            refine q_putL hC hW kX12_79 0 (Mg0 cc ad (sJ S 0 0 (x.toInt64))) (Ms0_12 cc ad (sJ S 0 0 (x.toInt64)) (y.toInt64)) (Nat.le_of_ble_eq_true rfl) dX12_setWeb_79 (fun H locs hW => ?_)
            refine lv_iload_n hx hb dX12_setWeb_82 rfl (lv_at hl 0 rfl) ?_
            exact hend _ _ _ _ _ _ (by simp only [sX12_setWeb, if_neg c_11, if_neg c_23, if_pos c_37, if_pos c_50, if_neg c_60]) (by simp only [sX12_setWeb_S, if_neg c_11, if_neg c_23, if_pos c_37, if_pos c_50, if_neg c_60]) hW dX12_setWeb_83
      · skip
        refine q_ldc hC nX12_127 dX12_setWeb_41 ?_
        exact hend _ _ _ _ _ _ (by simp only [sX12_setWeb, if_neg c_11, if_neg c_23, if_neg c_37]) (by simp only [sX12_setWeb_S, if_neg c_11, if_neg c_23, if_neg c_37]) hW dX12_setWeb_43
    · skip
      refine q_ldc hC nX12_126 dX12_setWeb_26 ?_
      exact hend _ _ _ _ _ _ (by simp only [sX12_setWeb, if_neg c_11, if_pos c_23]) (by simp only [sX12_setWeb_S, if_neg c_11, if_pos c_23]) hW dX12_setWeb_28
def sX12_setStrength (S : St) (x : Int32) (y : Int32) : Int32 := (if (sX12_in (x.toInt64) 1000 10000000) = 0 then (-1000002) else (if (sX12_in (y.toInt64) 1 1000) = 0 then (-1000002) else (if (S.2 0 2) = (x.toInt64) then (if (S.2 0 3) = (y.toInt64) then 0 else 1) else 1)))
def sX12_setStrength_S (S : St) (x : Int32) (y : Int32) : St := (if (sX12_in (x.toInt64) 1000 10000000) = 0 then S else (if (sX12_in (y.toInt64) 1 1000) = 0 then S else (sJ (sJ S 0 2 (x.toInt64)) 0 3 (y.toInt64))))
set_option maxHeartbeats 4000000 in
set_option maxRecDepth 100000 in
theorem c_X12_setStrength (l : Launch) (D : va_G) (cc : Nat → ClassId) (ad : Nat → Nat) (S : St) (x : Int32) (y : Int32) : CtI l D cc yX12_setStrength cX12_setStrength 4 .int 1 [.ref (ad 0), .int x, .int y] (MW cc ad S) (sX12_setStrength S x y) (MW cc ad (sX12_setStrength_S S x y)) := by
  refine CtI.of (plainFor_of_name (by decide +kernel)) rfl (Nat.le_of_ble_eq_true rfl) ?_
  intro p e s m args below meth c A Q hC hW hend ls hl
  obtain ⟨⟨hx, hb, hml, hown, hts⟩, hNW⟩ := id hC
  have hl : lv_has ls 4 [(0, .ref (ad 0)), (1, .int x), (2, .int y)] := hl
  refine lv_iload_n hx hb dX12_setStrength_0 rfl (lv_at hl 1 rfl) ?_
  refine lv_i2l hx hb dX12_setStrength_1 rfl ?_
  refine q_ldc2 hC nX12_98 dX12_setStrength_2 ?_
  refine q_ldc2 hC nX12_116 dX12_setStrength_5 ?_
  refine q_SI hC hW (c_X12_in l D cc _ (x.toInt64) 1000 10000000) mX12_118 (by decide) rfl hl.1 rfl (Nat.le_of_ble_eq_true rfl) (by decide) dX12_setStrength_8 (fun H locs hW => ?_)
  refine lv_if_eq (tgt := 26) hx hb dX12_setStrength_11 (by decide) (fun c_11 => ?_) (fun c_11 => ?_)
  · skip
    refine q_ldc hC nX12_126 dX12_setStrength_26 ?_
    exact hend _ _ _ _ _ _ (by simp only [sX12_setStrength, if_pos c_11]) (by simp only [sX12_setStrength_S, if_pos c_11]) hW dX12_setStrength_28
  · skip
    refine lv_iload_n hx hb dX12_setStrength_14 rfl (lv_at hl 2 rfl) ?_
    refine lv_i2l hx hb dX12_setStrength_15 rfl ?_
    refine lv_lconst (v := 1) hx hb dX12_setStrength_16 rfl ?_
    refine q_ldc2 hC nX12_98 dX12_setStrength_17 ?_
    refine q_SI hC hW (c_X12_in l D cc _ (y.toInt64) 1 1000) mX12_118 (by decide) rfl hl.1 rfl (Nat.le_of_ble_eq_true rfl) (by decide) dX12_setStrength_20 (fun H locs hW => ?_)
    refine lv_if_ne (tgt := 29) hx hb dX12_setStrength_23 (by decide) (fun c_23 => ?_) (fun c_23 => ?_)
    · skip
      refine lv_aload_n hx hb dX12_setStrength_29 rfl (lv_at hl 0 rfl) ?_
      refine q_get hC hW kX12_82 0 (Mg0 cc ad S) (v := .long (S.2 0 2)) rfl dX12_setStrength_30 ?_
      refine lv_iload_n hx hb dX12_setStrength_33 rfl (lv_at hl 1 rfl) ?_
      refine lv_i2l hx hb dX12_setStrength_34 rfl ?_
      refine q_jne (tgt := 49) hC dX12_setStrength_35 dX12_setStrength_36 (by decide) (fun c_35 => ?_) (fun c_35 => ?_)
      · skip
        refine lv_iconst (v := 1) hx hb dX12_setStrength_49 (by decide) ?_
        refine lv_goto (tgt := 54) hx hb dX12_setStrength_50 (by decide) ?_
        refine lv_istore_n (lv' := [(3, .int 1), (0, .ref (ad 0)), (1, .int x), (2, .int y)]) hx hb dX12_setStrength_54 rfl hl (by decide) rfl (fun ls hl => ?_)
        refine lv_aload_n hx hb dX12_setStrength_55 rfl (lv_at hl 1 rfl) ?_
        refine lv_iload_n hx hb dX12_setStrength_56 rfl (lv_at hl 2 rfl) ?_
        refine lv_i2l hx hb dX12_setStrength_57 rfl ?_
        refine q_putL hC hW kX12_82 0 (Mg0 cc ad S) (Ms0_13 cc ad S (x.toInt64)) (Nat.le_of_ble_eq_true rfl) dX12_setStrength_58 (fun H locs hW => ?_)
        refine lv_aload_n hx hb dX12_setStrength_61 rfl (lv_at hl 1 rfl) ?_
        refine lv_iload_n hx hb dX12_setStrength_62 rfl (lv_at hl 3 rfl) ?_
        refine lv_i2l hx hb dX12_setStrength_63 rfl ?_
        refine q_putL hC hW kX12_87 0 (Mg0 cc ad (sJ S 0 2 (x.toInt64))) (Ms0_14 cc ad (sJ S 0 2 (x.toInt64)) (y.toInt64)) (Nat.le_of_ble_eq_true rfl) dX12_setStrength_64 (fun H locs hW => ?_)
        refine lv_iload_n hx hb dX12_setStrength_67 rfl (lv_at hl 0 rfl) ?_
        exact hend _ _ _ _ _ _ (by simp only [sX12_setStrength, if_neg c_11, if_neg c_23, if_neg c_35]) (by simp only [sX12_setStrength_S, if_neg c_11, if_neg c_23, if_neg c_35]) hW dX12_setStrength_68
      · skip
        refine lv_aload_n hx hb dX12_setStrength_39 rfl (lv_at hl 0 rfl) ?_
        refine q_get hC hW kX12_87 0 (Mg0 cc ad S) (v := .long (S.2 0 3)) rfl dX12_setStrength_40 ?_
        refine lv_iload_n hx hb dX12_setStrength_43 rfl (lv_at hl 2 rfl) ?_
        refine lv_i2l hx hb dX12_setStrength_44 rfl ?_
        refine q_jeq (tgt := 53) hC dX12_setStrength_45 dX12_setStrength_46 (by decide) (fun c_45 => ?_) (fun c_45 => ?_)
        · skip
          refine lv_iconst (v := 0) hx hb dX12_setStrength_53 (by decide) ?_
          refine lv_istore_n (lv' := [(3, .int 0), (0, .ref (ad 0)), (1, .int x), (2, .int y)]) hx hb dX12_setStrength_54 rfl hl (by decide) rfl (fun ls hl => ?_)
          refine lv_aload_n hx hb dX12_setStrength_55 rfl (lv_at hl 1 rfl) ?_
          refine lv_iload_n hx hb dX12_setStrength_56 rfl (lv_at hl 2 rfl) ?_
          refine lv_i2l hx hb dX12_setStrength_57 rfl ?_
          refine q_putL hC hW kX12_82 0 (Mg0 cc ad S) (Ms0_13 cc ad S (x.toInt64)) (Nat.le_of_ble_eq_true rfl) dX12_setStrength_58 (fun H locs hW => ?_)
          refine lv_aload_n hx hb dX12_setStrength_61 rfl (lv_at hl 1 rfl) ?_
          refine lv_iload_n hx hb dX12_setStrength_62 rfl (lv_at hl 3 rfl) ?_
          refine lv_i2l hx hb dX12_setStrength_63 rfl ?_
          refine q_putL hC hW kX12_87 0 (Mg0 cc ad (sJ S 0 2 (x.toInt64))) (Ms0_14 cc ad (sJ S 0 2 (x.toInt64)) (y.toInt64)) (Nat.le_of_ble_eq_true rfl) dX12_setStrength_64 (fun H locs hW => ?_)
          refine lv_iload_n hx hb dX12_setStrength_67 rfl (lv_at hl 0 rfl) ?_
          exact hend _ _ _ _ _ _ (by simp only [sX12_setStrength, if_neg c_11, if_neg c_23, if_pos c_35, if_pos c_45]) (by simp only [sX12_setStrength_S, if_neg c_11, if_neg c_23, if_pos c_35, if_pos c_45]) hW dX12_setStrength_68
        · skip
          refine lv_iconst (v := 1) hx hb dX12_setStrength_49 (by decide) ?_
          refine lv_goto (tgt := 54) hx hb dX12_setStrength_50 (by decide) ?_
          refine lv_istore_n (lv' := [(3, .int 1), (0, .ref (ad 0)), (1, .int x), (2, .int y)]) hx hb dX12_setStrength_54 rfl hl (by decide) rfl (fun ls hl => ?_)
          refine lv_aload_n hx hb dX12_setStrength_55 rfl (lv_at hl 1 rfl) ?_
          refine lv_iload_n hx hb dX12_setStrength_56 rfl (lv_at hl 2 rfl) ?_
          refine lv_i2l hx hb dX12_setStrength_57 rfl ?_
          refine q_putL hC hW kX12_82 0 (Mg0 cc ad S) (Ms0_13 cc ad S (x.toInt64)) (Nat.le_of_ble_eq_true rfl) dX12_setStrength_58 (fun H locs hW => ?_)
          refine lv_aload_n hx hb dX12_setStrength_61 rfl (lv_at hl 1 rfl) ?_
          refine lv_iload_n hx hb dX12_setStrength_62 rfl (lv_at hl 3 rfl) ?_
          refine lv_i2l hx hb dX12_setStrength_63 rfl ?_
          refine q_putL hC hW kX12_87 0 (Mg0 cc ad (sJ S 0 2 (x.toInt64))) (Ms0_14 cc ad (sJ S 0 2 (x.toInt64)) (y.toInt64)) (Nat.le_of_ble_eq_true rfl) dX12_setStrength_64 (fun H locs hW => ?_)
          refine lv_iload_n hx hb dX12_setStrength_67 rfl (lv_at hl 0 rfl) ?_
          exact hend _ _ _ _ _ _ (by simp only [sX12_setStrength, if_neg c_11, if_neg c_23, if_pos c_35, if_neg c_45]) (by simp only [sX12_setStrength_S, if_neg c_11, if_neg c_23, if_pos c_35, if_neg c_45]) hW dX12_setStrength_68
    · skip
      refine q_ldc hC nX12_126 dX12_setStrength_26 ?_
      exact hend _ _ _ _ _ _ (by simp only [sX12_setStrength, if_neg c_11, if_pos c_23]) (by simp only [sX12_setStrength_S, if_neg c_11, if_pos c_23]) hW dX12_setStrength_28
def sX12_setDraw (S : St) (r : Nat) (y : Int32) : Int32 := (if (sX12_in (y.toInt64) (-20000) 20000) = 0 then (-1000002) else ((S.2 10 (r - 1)).toInt32))
def sX12_setDraw_S (S : St) (r : Nat) (y : Int32) : St := (if (sX12_in (y.toInt64) (-20000) 20000) = 0 then S else (sJ S 10 (r - 1) (y.toInt64)))
set_option maxHeartbeats 4000000 in
set_option maxRecDepth 100000 in
theorem c_X12_setDraw (l : Launch) (D : va_G) (cc : Nat → ClassId) (ad : Nat → Nat) (S : St) (r : Nat) (y : Int32) (hI : InvM S) (hr : 1 ≤ r ∧ r ≤ cN S) : CtI l D cc yX12_setDraw cX12_setDraw 4 .int 1 [.ref (ad 0), .int (nI r), .int y] (MW cc ad S) (sX12_setDraw S r y) (MW cc ad (sX12_setDraw_S S r y)) := by
  refine CtI.of (plainFor_of_name (by decide +kernel)) rfl (Nat.le_of_ble_eq_true rfl) ?_
  intro p e s m args below meth c A Q hC hW hend ls hl
  obtain ⟨⟨hx, hb, hml, hown, hts⟩, hNW⟩ := id hC
  have hl : lv_has ls 4 [(0, .ref (ad 0)), (1, .int (nI r)), (2, .int y)] := hl
  obtain ⟨⟨-, hn1_hI, hn2_hI⟩, ⟨-, hq_hI⟩, -, ⟨-, hh_hI⟩, hs_hI⟩ := id hI
  refine lv_iload_n hx hb dX12_setDraw_0 rfl (lv_at hl 1 rfl) ?_
  refine lv_i2l (v := lN r) hx hb dX12_setDraw_1 (nI_l (by omega)) ?_
  refine lv_lconst (v := 1) hx hb dX12_setDraw_2 rfl ?_
  refine lv_aload_n hx hb dX12_setDraw_3 rfl (lv_at hl 0 rfl) ?_
  refine q_get hC hW kX12_69 0 (Mg0 cc ad S) (v := .int (nI (cN S))) (congrArg (fun z => some (Value.int z)) hI.1.1) dX12_setDraw_4 ?_
  refine lv_i2l (v := lN (cN S)) hx hb dX12_setDraw_7 (nI_l (by omega)) ?_
  refine q_SI hC hW (c_X12_in l D cc _ (lN r) 1 (lN (cN S))) mX12_118 (by decide) rfl hl.1 rfl (Nat.le_of_ble_eq_true rfl) (by decide) dX12_setDraw_8 (fun H locs hW => ?_)
  refine q_ri (v := nI 1) (in_nat (b := 1) hr.1 hr.2 (by omega)) ?_
  refine q_if_ne_n (tgt := 17) hx hb (a := 1) rfl (by omega) dX12_setDraw_11 (by decide) (fun c_11 => ?_) (fun c_11 => by exfalso; omega)
  refine lv_iload_n hx hb dX12_setDraw_17 rfl (lv_at hl 2 rfl) ?_
  refine lv_i2l hx hb dX12_setDraw_18 rfl ?_
  refine q_ldc2 hC nX12_149 dX12_setDraw_19 ?_
  refine q_ldc2 hC nX12_151 dX12_setDraw_22 ?_
  refine q_SI hC hW (c_X12_in l D cc _ (y.toInt64) (-20000) 20000) mX12_118 (by decide) rfl hl.1 rfl (Nat.le_of_ble_eq_true rfl) (by decide) dX12_setDraw_25 (fun H locs hW => ?_)
  refine lv_if_ne (tgt := 34) hx hb dX12_setDraw_28 (by decide) (fun c_28 => ?_) (fun c_28 => ?_)
  · skip
    refine lv_aload_n hx hb dX12_setDraw_34 rfl (lv_at hl 0 rfl) ?_
    refine q_get hC hW kX12_38 0 (Mg0 cc ad S) (v := .ref (ad 10)) rfl dX12_setDraw_35 ?_
    refine lv_iload_n hx hb dX12_setDraw_38 rfl (lv_at hl 1 rfl) ?_
    refine lv_iconst (v := 1) hx hb dX12_setDraw_39 (by decide) ?_
    refine lv_isub hx hb dX12_setDraw_40 ?_
    refine q_ri (v := nI (r - 1)) (nq_sub (a := r) (b := 1) rfl rfl (by omega)) ?_
    refine q_lald hC hW 10 (Mg10 cc ad S) (v := (S.2 10 (r - 1))) (r - 1) rfl (by omega) (by decide) rfl dX12_setDraw_41 ?_
    refine lv_l2i hx hb dX12_setDraw_42 rfl ?_
    refine lv_istore_n (lv' := [(3, .int ((S.2 10 (r - 1)).toInt32)), (0, .ref (ad 0)), (1, .int (nI r)), (2, .int y)]) hx hb dX12_setDraw_43 rfl hl (by decide) rfl (fun ls hl => ?_)
    refine lv_aload_n hx hb dX12_setDraw_44 rfl (lv_at hl 1 rfl) ?_
    refine q_get hC hW kX12_38 0 (Mg0 cc ad S) (v := .ref (ad 10)) rfl dX12_setDraw_45 ?_
    refine lv_iload_n hx hb dX12_setDraw_48 rfl (lv_at hl 2 rfl) ?_
    refine lv_iconst (v := 1) hx hb dX12_setDraw_49 (by decide) ?_
    refine lv_isub hx hb dX12_setDraw_50 ?_
    refine q_ri (v := nI (r - 1)) (nq_sub (a := r) (b := 1) rfl rfl (by omega)) ?_
    refine lv_iload_n hx hb dX12_setDraw_51 rfl (lv_at hl 3 rfl) ?_
    refine lv_i2l hx hb dX12_setDraw_52 rfl ?_
    refine q_last hC hW 10 (Mg10 cc ad S) (r - 1) rfl (by omega) (by decide) (Ms10 cc ad S (r - 1) (y.toInt64)) dX12_setDraw_53 (fun H locs hW => ?_)
    refine lv_iload_n hx hb dX12_setDraw_54 rfl (lv_at hl 0 rfl) ?_
    exact hend _ _ _ _ _ _ (by simp only [sX12_setDraw, if_neg c_28]) (by simp only [sX12_setDraw_S, if_neg c_28]) hW dX12_setDraw_55
  · skip
    refine q_ldc hC nX12_126 dX12_setDraw_31 ?_
    exact hend _ _ _ _ _ _ (by simp only [sX12_setDraw, if_pos c_28]) (by simp only [sX12_setDraw_S, if_pos c_28]) hW dX12_setDraw_33
def sX12_setDraw_no (S : St) (x : Int32) (y : Int32) : Int32 := (-1000001)
set_option maxHeartbeats 4000000 in
set_option maxRecDepth 100000 in
theorem c_X12_setDraw_no (l : Launch) (D : va_G) (cc : Nat → ClassId) (ad : Nat → Nat) (S : St) (x : Int32) (y : Int32) (hno : sX12_in x.toInt64 1 (S.1 0 0).toInt64 = 0) : CtI l D cc yX12_setDraw cX12_setDraw 4 .int 1 [.ref (ad 0), .int x, .int y] (MW cc ad S) (sX12_setDraw_no S x y) (MW cc ad S) := by
  refine CtI.of (plainFor_of_name (by decide +kernel)) rfl (Nat.le_of_ble_eq_true rfl) ?_
  intro p e s m args below meth c A Q hC hW hend ls hl
  obtain ⟨⟨hx, hb, hml, hown, hts⟩, hNW⟩ := id hC
  have hl : lv_has ls 4 [(0, .ref (ad 0)), (1, .int x), (2, .int y)] := hl
  refine lv_iload_n hx hb dX12_setDraw_0 rfl (lv_at hl 1 rfl) ?_
  refine lv_i2l hx hb dX12_setDraw_1 rfl ?_
  refine lv_lconst (v := 1) hx hb dX12_setDraw_2 rfl ?_
  refine lv_aload_n hx hb dX12_setDraw_3 rfl (lv_at hl 0 rfl) ?_
  refine q_get hC hW kX12_69 0 (Mg0 cc ad S) (v := .int (S.1 0 0)) rfl dX12_setDraw_4 ?_
  refine lv_i2l hx hb dX12_setDraw_7 rfl ?_
  refine q_SI hC hW (c_X12_in l D cc _ (x.toInt64) 1 ((S.1 0 0).toInt64)) mX12_118 (by decide) rfl hl.1 rfl (Nat.le_of_ble_eq_true rfl) (by decide) dX12_setDraw_8 (fun H locs hW => ?_)
  refine q_ri (v := nI 0) hno ?_
  refine q_if_ne_n (tgt := 17) hx hb (a := 0) rfl (by omega) dX12_setDraw_11 (by decide) (fun c_11 => by exfalso; omega) (fun c_11 => ?_)
  refine q_ldc hC nX12_138 dX12_setDraw_14 ?_
  exact hend _ _ _ _ _ _ (by unfold sX12_setDraw_no; rfl) rfl hW dX12_setDraw_16
def sX12_setSpeed (S : St) (x : Int32) (y : Int32) : Int32 := (if (sX12_in (x.toInt64) 0 20000) = 0 then (-1000002) else (if (sX12_in (y.toInt64) 1 5000) = 0 then (-1000002) else (if (S.2 0 4) = (x.toInt64) then (if (S.2 0 5) = (y.toInt64) then 0 else 1) else 1)))
def sX12_setSpeed_S (S : St) (x : Int32) (y : Int32) : St := (if (sX12_in (x.toInt64) 0 20000) = 0 then S else (if (sX12_in (y.toInt64) 1 5000) = 0 then S else (sJ (sJ S 0 4 (x.toInt64)) 0 5 (y.toInt64))))
set_option maxHeartbeats 4000000 in
set_option maxRecDepth 100000 in
theorem c_X12_setSpeed (l : Launch) (D : va_G) (cc : Nat → ClassId) (ad : Nat → Nat) (S : St) (x : Int32) (y : Int32) : CtI l D cc yX12_setSpeed cX12_setSpeed 4 .int 1 [.ref (ad 0), .int x, .int y] (MW cc ad S) (sX12_setSpeed S x y) (MW cc ad (sX12_setSpeed_S S x y)) := by
  refine CtI.of (plainFor_of_name (by decide +kernel)) rfl (Nat.le_of_ble_eq_true rfl) ?_
  intro p e s m args below meth c A Q hC hW hend ls hl
  obtain ⟨⟨hx, hb, hml, hown, hts⟩, hNW⟩ := id hC
  have hl : lv_has ls 4 [(0, .ref (ad 0)), (1, .int x), (2, .int y)] := hl
  refine lv_iload_n hx hb dX12_setSpeed_0 rfl (lv_at hl 1 rfl) ?_
  refine lv_i2l hx hb dX12_setSpeed_1 rfl ?_
  refine lv_lconst (v := 0) hx hb dX12_setSpeed_2 rfl ?_
  refine q_ldc2 hC nX12_151 dX12_setSpeed_3 ?_
  refine q_SI hC hW (c_X12_in l D cc _ (x.toInt64) 0 20000) mX12_118 (by decide) rfl hl.1 rfl (Nat.le_of_ble_eq_true rfl) (by decide) dX12_setSpeed_6 (fun H locs hW => ?_)
  refine lv_if_eq (tgt := 24) hx hb dX12_setSpeed_9 (by decide) (fun c_9 => ?_) (fun c_9 => ?_)
  · skip
    refine q_ldc hC nX12_126 dX12_setSpeed_24 ?_
    exact hend _ _ _ _ _ _ (by simp only [sX12_setSpeed, if_pos c_9]) (by simp only [sX12_setSpeed_S, if_pos c_9]) hW dX12_setSpeed_26
  · skip
    refine lv_iload_n hx hb dX12_setSpeed_12 rfl (lv_at hl 2 rfl) ?_
    refine lv_i2l hx hb dX12_setSpeed_13 rfl ?_
    refine lv_lconst (v := 1) hx hb dX12_setSpeed_14 rfl ?_
    refine q_ldc2 hC nX12_153 dX12_setSpeed_15 ?_
    refine q_SI hC hW (c_X12_in l D cc _ (y.toInt64) 1 5000) mX12_118 (by decide) rfl hl.1 rfl (Nat.le_of_ble_eq_true rfl) (by decide) dX12_setSpeed_18 (fun H locs hW => ?_)
    refine lv_if_ne (tgt := 27) hx hb dX12_setSpeed_21 (by decide) (fun c_21 => ?_) (fun c_21 => ?_)
    · skip
      refine lv_aload_n hx hb dX12_setSpeed_27 rfl (lv_at hl 0 rfl) ?_
      refine q_get hC hW kX12_90 0 (Mg0 cc ad S) (v := .long (S.2 0 4)) rfl dX12_setSpeed_28 ?_
      refine lv_iload_n hx hb dX12_setSpeed_31 rfl (lv_at hl 1 rfl) ?_
      refine lv_i2l hx hb dX12_setSpeed_32 rfl ?_
      refine q_jne (tgt := 47) hC dX12_setSpeed_33 dX12_setSpeed_34 (by decide) (fun c_33 => ?_) (fun c_33 => ?_)
      · skip
        refine lv_iconst (v := 1) hx hb dX12_setSpeed_47 (by decide) ?_
        refine lv_goto (tgt := 52) hx hb dX12_setSpeed_48 (by decide) ?_
        refine lv_istore_n (lv' := [(3, .int 1), (0, .ref (ad 0)), (1, .int x), (2, .int y)]) hx hb dX12_setSpeed_52 rfl hl (by decide) rfl (fun ls hl => ?_)
        refine lv_aload_n hx hb dX12_setSpeed_53 rfl (lv_at hl 1 rfl) ?_
        refine lv_iload_n hx hb dX12_setSpeed_54 rfl (lv_at hl 2 rfl) ?_
        refine lv_i2l hx hb dX12_setSpeed_55 rfl ?_
        refine q_putL hC hW kX12_90 0 (Mg0 cc ad S) (Ms0_15 cc ad S (x.toInt64)) (Nat.le_of_ble_eq_true rfl) dX12_setSpeed_56 (fun H locs hW => ?_)
        refine lv_aload_n hx hb dX12_setSpeed_59 rfl (lv_at hl 1 rfl) ?_
        refine lv_iload_n hx hb dX12_setSpeed_60 rfl (lv_at hl 3 rfl) ?_
        refine lv_i2l hx hb dX12_setSpeed_61 rfl ?_
        refine q_putL hC hW kX12_95 0 (Mg0 cc ad (sJ S 0 4 (x.toInt64))) (Ms0_16 cc ad (sJ S 0 4 (x.toInt64)) (y.toInt64)) (Nat.le_of_ble_eq_true rfl) dX12_setSpeed_62 (fun H locs hW => ?_)
        refine lv_iload_n hx hb dX12_setSpeed_65 rfl (lv_at hl 0 rfl) ?_
        exact hend _ _ _ _ _ _ (by simp only [sX12_setSpeed, if_neg c_9, if_neg c_21, if_neg c_33]) (by simp only [sX12_setSpeed_S, if_neg c_9, if_neg c_21, if_neg c_33]) hW dX12_setSpeed_66
      · skip
        refine lv_aload_n hx hb dX12_setSpeed_37 rfl (lv_at hl 0 rfl) ?_
        refine q_get hC hW kX12_95 0 (Mg0 cc ad S) (v := .long (S.2 0 5)) rfl dX12_setSpeed_38 ?_
        refine lv_iload_n hx hb dX12_setSpeed_41 rfl (lv_at hl 2 rfl) ?_
        refine lv_i2l hx hb dX12_setSpeed_42 rfl ?_
        refine q_jeq (tgt := 51) hC dX12_setSpeed_43 dX12_setSpeed_44 (by decide) (fun c_43 => ?_) (fun c_43 => ?_)
        · skip
          refine lv_iconst (v := 0) hx hb dX12_setSpeed_51 (by decide) ?_
          refine lv_istore_n (lv' := [(3, .int 0), (0, .ref (ad 0)), (1, .int x), (2, .int y)]) hx hb dX12_setSpeed_52 rfl hl (by decide) rfl (fun ls hl => ?_)
          refine lv_aload_n hx hb dX12_setSpeed_53 rfl (lv_at hl 1 rfl) ?_
          refine lv_iload_n hx hb dX12_setSpeed_54 rfl (lv_at hl 2 rfl) ?_
          refine lv_i2l hx hb dX12_setSpeed_55 rfl ?_
          refine q_putL hC hW kX12_90 0 (Mg0 cc ad S) (Ms0_15 cc ad S (x.toInt64)) (Nat.le_of_ble_eq_true rfl) dX12_setSpeed_56 (fun H locs hW => ?_)
          refine lv_aload_n hx hb dX12_setSpeed_59 rfl (lv_at hl 1 rfl) ?_
          refine lv_iload_n hx hb dX12_setSpeed_60 rfl (lv_at hl 3 rfl) ?_
          refine lv_i2l hx hb dX12_setSpeed_61 rfl ?_
          refine q_putL hC hW kX12_95 0 (Mg0 cc ad (sJ S 0 4 (x.toInt64))) (Ms0_16 cc ad (sJ S 0 4 (x.toInt64)) (y.toInt64)) (Nat.le_of_ble_eq_true rfl) dX12_setSpeed_62 (fun H locs hW => ?_)
          refine lv_iload_n hx hb dX12_setSpeed_65 rfl (lv_at hl 0 rfl) ?_
          exact hend _ _ _ _ _ _ (by simp only [sX12_setSpeed, if_neg c_9, if_neg c_21, if_pos c_33, if_pos c_43]) (by simp only [sX12_setSpeed_S, if_neg c_9, if_neg c_21, if_pos c_33, if_pos c_43]) hW dX12_setSpeed_66
        · skip
          refine lv_iconst (v := 1) hx hb dX12_setSpeed_47 (by decide) ?_
          refine lv_goto (tgt := 52) hx hb dX12_setSpeed_48 (by decide) ?_
          refine lv_istore_n (lv' := [(3, .int 1), (0, .ref (ad 0)), (1, .int x), (2, .int y)]) hx hb dX12_setSpeed_52 rfl hl (by decide) rfl (fun ls hl => ?_)
          refine lv_aload_n hx hb dX12_setSpeed_53 rfl (lv_at hl 1 rfl) ?_
          refine lv_iload_n hx hb dX12_setSpeed_54 rfl (lv_at hl 2 rfl) ?_
          refine lv_i2l hx hb dX12_setSpeed_55 rfl ?_
          refine q_putL hC hW kX12_90 0 (Mg0 cc ad S) (Ms0_15 cc ad S (x.toInt64)) (Nat.le_of_ble_eq_true rfl) dX12_setSpeed_56 (fun H locs hW => ?_)
          refine lv_aload_n hx hb dX12_setSpeed_59 rfl (lv_at hl 1 rfl) ?_
          refine lv_iload_n hx hb dX12_setSpeed_60 rfl (lv_at hl 3 rfl) ?_
          refine lv_i2l hx hb dX12_setSpeed_61 rfl ?_
          refine q_putL hC hW kX12_95 0 (Mg0 cc ad (sJ S 0 4 (x.toInt64))) (Ms0_16 cc ad (sJ S 0 4 (x.toInt64)) (y.toInt64)) (Nat.le_of_ble_eq_true rfl) dX12_setSpeed_62 (fun H locs hW => ?_)
          refine lv_iload_n hx hb dX12_setSpeed_65 rfl (lv_at hl 0 rfl) ?_
          exact hend _ _ _ _ _ _ (by simp only [sX12_setSpeed, if_neg c_9, if_neg c_21, if_pos c_33, if_neg c_43]) (by simp only [sX12_setSpeed_S, if_neg c_9, if_neg c_21, if_pos c_33, if_neg c_43]) hW dX12_setSpeed_66
    · skip
      refine q_ldc hC nX12_126 dX12_setSpeed_24 ?_
      exact hend _ _ _ _ _ _ (by simp only [sX12_setSpeed, if_neg c_9, if_pos c_21]) (by simp only [sX12_setSpeed_S, if_neg c_9, if_pos c_21]) hW dX12_setSpeed_26
def sX12_setSplicing (S : St) (x : Int32) (y : Int32) : Int32 := (if (sX12_in (x.toInt64) 0 20000) = 0 then (-1000002) else (if (sX12_in (y.toInt64) 0 100000000) = 0 then (-1000002) else (if (S.2 0 6) = (x.toInt64) then (if (S.2 0 7) = (y.toInt64) then 0 else 1) else 1)))
def sX12_setSplicing_S (S : St) (x : Int32) (y : Int32) : St := (if (sX12_in (x.toInt64) 0 20000) = 0 then S else (if (sX12_in (y.toInt64) 0 100000000) = 0 then S else (sJ (sJ S 0 6 (x.toInt64)) 0 7 (y.toInt64))))
set_option maxHeartbeats 4000000 in
set_option maxRecDepth 100000 in
theorem c_X12_setSplicing (l : Launch) (D : va_G) (cc : Nat → ClassId) (ad : Nat → Nat) (S : St) (x : Int32) (y : Int32) : CtI l D cc yX12_setSplicing cX12_setSplicing 4 .int 1 [.ref (ad 0), .int x, .int y] (MW cc ad S) (sX12_setSplicing S x y) (MW cc ad (sX12_setSplicing_S S x y)) := by
  refine CtI.of (plainFor_of_name (by decide +kernel)) rfl (Nat.le_of_ble_eq_true rfl) ?_
  intro p e s m args below meth c A Q hC hW hend ls hl
  obtain ⟨⟨hx, hb, hml, hown, hts⟩, hNW⟩ := id hC
  have hl : lv_has ls 4 [(0, .ref (ad 0)), (1, .int x), (2, .int y)] := hl
  refine lv_iload_n hx hb dX12_setSplicing_0 rfl (lv_at hl 1 rfl) ?_
  refine lv_i2l hx hb dX12_setSplicing_1 rfl ?_
  refine lv_lconst (v := 0) hx hb dX12_setSplicing_2 rfl ?_
  refine q_ldc2 hC nX12_151 dX12_setSplicing_3 ?_
  refine q_SI hC hW (c_X12_in l D cc _ (x.toInt64) 0 20000) mX12_118 (by decide) rfl hl.1 rfl (Nat.le_of_ble_eq_true rfl) (by decide) dX12_setSplicing_6 (fun H locs hW => ?_)
  refine lv_if_eq (tgt := 24) hx hb dX12_setSplicing_9 (by decide) (fun c_9 => ?_) (fun c_9 => ?_)
  · skip
    refine q_ldc hC nX12_126 dX12_setSplicing_24 ?_
    exact hend _ _ _ _ _ _ (by simp only [sX12_setSplicing, if_pos c_9]) (by simp only [sX12_setSplicing_S, if_pos c_9]) hW dX12_setSplicing_26
  · skip
    refine lv_iload_n hx hb dX12_setSplicing_12 rfl (lv_at hl 2 rfl) ?_
    refine lv_i2l hx hb dX12_setSplicing_13 rfl ?_
    refine lv_lconst (v := 0) hx hb dX12_setSplicing_14 rfl ?_
    refine q_ldc2 hC nX12_155 dX12_setSplicing_15 ?_
    refine q_SI hC hW (c_X12_in l D cc _ (y.toInt64) 0 100000000) mX12_118 (by decide) rfl hl.1 rfl (Nat.le_of_ble_eq_true rfl) (by decide) dX12_setSplicing_18 (fun H locs hW => ?_)
    refine lv_if_ne (tgt := 27) hx hb dX12_setSplicing_21 (by decide) (fun c_21 => ?_) (fun c_21 => ?_)
    · skip
      refine lv_aload_n hx hb dX12_setSplicing_27 rfl (lv_at hl 0 rfl) ?_
      refine q_get hC hW kX12_100 0 (Mg0 cc ad S) (v := .long (S.2 0 6)) rfl dX12_setSplicing_28 ?_
      refine lv_iload_n hx hb dX12_setSplicing_31 rfl (lv_at hl 1 rfl) ?_
      refine lv_i2l hx hb dX12_setSplicing_32 rfl ?_
      refine q_jne (tgt := 47) hC dX12_setSplicing_33 dX12_setSplicing_34 (by decide) (fun c_33 => ?_) (fun c_33 => ?_)
      · skip
        refine lv_iconst (v := 1) hx hb dX12_setSplicing_47 (by decide) ?_
        refine lv_goto (tgt := 52) hx hb dX12_setSplicing_48 (by decide) ?_
        refine lv_istore_n (lv' := [(3, .int 1), (0, .ref (ad 0)), (1, .int x), (2, .int y)]) hx hb dX12_setSplicing_52 rfl hl (by decide) rfl (fun ls hl => ?_)
        refine lv_aload_n hx hb dX12_setSplicing_53 rfl (lv_at hl 1 rfl) ?_
        refine lv_iload_n hx hb dX12_setSplicing_54 rfl (lv_at hl 2 rfl) ?_
        refine lv_i2l hx hb dX12_setSplicing_55 rfl ?_
        refine q_putL hC hW kX12_100 0 (Mg0 cc ad S) (Ms0_17 cc ad S (x.toInt64)) (Nat.le_of_ble_eq_true rfl) dX12_setSplicing_56 (fun H locs hW => ?_)
        refine lv_aload_n hx hb dX12_setSplicing_59 rfl (lv_at hl 1 rfl) ?_
        refine lv_iload_n hx hb dX12_setSplicing_60 rfl (lv_at hl 3 rfl) ?_
        refine lv_i2l hx hb dX12_setSplicing_61 rfl ?_
        refine q_putL hC hW kX12_103 0 (Mg0 cc ad (sJ S 0 6 (x.toInt64))) (Ms0_18 cc ad (sJ S 0 6 (x.toInt64)) (y.toInt64)) (Nat.le_of_ble_eq_true rfl) dX12_setSplicing_62 (fun H locs hW => ?_)
        refine lv_iload_n hx hb dX12_setSplicing_65 rfl (lv_at hl 0 rfl) ?_
        exact hend _ _ _ _ _ _ (by simp only [sX12_setSplicing, if_neg c_9, if_neg c_21, if_neg c_33]) (by simp only [sX12_setSplicing_S, if_neg c_9, if_neg c_21, if_neg c_33]) hW dX12_setSplicing_66
      · skip
        refine lv_aload_n hx hb dX12_setSplicing_37 rfl (lv_at hl 0 rfl) ?_
        refine q_get hC hW kX12_103 0 (Mg0 cc ad S) (v := .long (S.2 0 7)) rfl dX12_setSplicing_38 ?_
        refine lv_iload_n hx hb dX12_setSplicing_41 rfl (lv_at hl 2 rfl) ?_
        refine lv_i2l hx hb dX12_setSplicing_42 rfl ?_
        refine q_jeq (tgt := 51) hC dX12_setSplicing_43 dX12_setSplicing_44 (by decide) (fun c_43 => ?_) (fun c_43 => ?_)
        · skip
          refine lv_iconst (v := 0) hx hb dX12_setSplicing_51 (by decide) ?_
          refine lv_istore_n (lv' := [(3, .int 0), (0, .ref (ad 0)), (1, .int x), (2, .int y)]) hx hb dX12_setSplicing_52 rfl hl (by decide) rfl (fun ls hl => ?_)
          refine lv_aload_n hx hb dX12_setSplicing_53 rfl (lv_at hl 1 rfl) ?_
          refine lv_iload_n hx hb dX12_setSplicing_54 rfl (lv_at hl 2 rfl) ?_
          refine lv_i2l hx hb dX12_setSplicing_55 rfl ?_
          refine q_putL hC hW kX12_100 0 (Mg0 cc ad S) (Ms0_17 cc ad S (x.toInt64)) (Nat.le_of_ble_eq_true rfl) dX12_setSplicing_56 (fun H locs hW => ?_)
          refine lv_aload_n hx hb dX12_setSplicing_59 rfl (lv_at hl 1 rfl) ?_
          refine lv_iload_n hx hb dX12_setSplicing_60 rfl (lv_at hl 3 rfl) ?_
          refine lv_i2l hx hb dX12_setSplicing_61 rfl ?_
          refine q_putL hC hW kX12_103 0 (Mg0 cc ad (sJ S 0 6 (x.toInt64))) (Ms0_18 cc ad (sJ S 0 6 (x.toInt64)) (y.toInt64)) (Nat.le_of_ble_eq_true rfl) dX12_setSplicing_62 (fun H locs hW => ?_)
          refine lv_iload_n hx hb dX12_setSplicing_65 rfl (lv_at hl 0 rfl) ?_
          exact hend _ _ _ _ _ _ (by simp only [sX12_setSplicing, if_neg c_9, if_neg c_21, if_pos c_33, if_pos c_43]) (by simp only [sX12_setSplicing_S, if_neg c_9, if_neg c_21, if_pos c_33, if_pos c_43]) hW dX12_setSplicing_66
        · skip
          refine lv_iconst (v := 1) hx hb dX12_setSplicing_47 (by decide) ?_
          refine lv_goto (tgt := 52) hx hb dX12_setSplicing_48 (by decide) ?_
          refine lv_istore_n (lv' := [(3, .int 1), (0, .ref (ad 0)), (1, .int x), (2, .int y)]) hx hb dX12_setSplicing_52 rfl hl (by decide) rfl (fun ls hl => ?_)
          refine lv_aload_n hx hb dX12_setSplicing_53 rfl (lv_at hl 1 rfl) ?_
          refine lv_iload_n hx hb dX12_setSplicing_54 rfl (lv_at hl 2 rfl) ?_
          refine lv_i2l hx hb dX12_setSplicing_55 rfl ?_
          refine q_putL hC hW kX12_100 0 (Mg0 cc ad S) (Ms0_17 cc ad S (x.toInt64)) (Nat.le_of_ble_eq_true rfl) dX12_setSplicing_56 (fun H locs hW => ?_)
          refine lv_aload_n hx hb dX12_setSplicing_59 rfl (lv_at hl 1 rfl) ?_
          refine lv_iload_n hx hb dX12_setSplicing_60 rfl (lv_at hl 3 rfl) ?_
          refine lv_i2l hx hb dX12_setSplicing_61 rfl ?_
          refine q_putL hC hW kX12_103 0 (Mg0 cc ad (sJ S 0 6 (x.toInt64))) (Ms0_18 cc ad (sJ S 0 6 (x.toInt64)) (y.toInt64)) (Nat.le_of_ble_eq_true rfl) dX12_setSplicing_62 (fun H locs hW => ?_)
          refine lv_iload_n hx hb dX12_setSplicing_65 rfl (lv_at hl 0 rfl) ?_
          exact hend _ _ _ _ _ _ (by simp only [sX12_setSplicing, if_neg c_9, if_neg c_21, if_pos c_33, if_neg c_43]) (by simp only [sX12_setSplicing_S, if_neg c_9, if_neg c_21, if_pos c_33, if_neg c_43]) hW dX12_setSplicing_66
    · skip
      refine q_ldc hC nX12_126 dX12_setSplicing_24 ?_
      exact hend _ _ _ _ _ _ (by simp only [sX12_setSplicing, if_neg c_9, if_pos c_21]) (by simp only [sX12_setSplicing_S, if_neg c_9, if_pos c_21]) hW dX12_setSplicing_26
def sX12_loadRoll (S : St) (x : Int32) : Int32 := (if (sX12_in (x.toInt64) 1 1000000000) = 0 then (-1000002) else (if (S.2 11 51) = 0 then (if (mQ S) = 0 then 0 else (if (mQ S) = 4 then (-1000004) else (nI ((mQ S) + 1)))) else (if (mQ S) = 4 then (-1000004) else (nI ((mQ S) + 1)))))
def sX12_loadRoll_S (S : St) (x : Int32) : St := (if (sX12_in (x.toInt64) 1 1000000000) = 0 then S else (if (S.2 11 51) = 0 then (if (mQ S) = 0 then (sJ S 11 51 (x.toInt64)) else (if (mQ S) = 4 then S else (sJ (sJ S 11 (53 + (mQ S)) (x.toInt64)) 11 52 (((sJ S 11 (53 + (mQ S)) (x.toInt64)).2 11 52) + 1)))) else (if (mQ S) = 4 then S else (sJ (sJ S 11 (53 + (mQ S)) (x.toInt64)) 11 52 (((sJ S 11 (53 + (mQ S)) (x.toInt64)).2 11 52) + 1)))))
set_option maxHeartbeats 4000000 in
set_option maxRecDepth 100000 in
theorem c_X12_loadRoll (l : Launch) (D : va_G) (cc : Nat → ClassId) (ad : Nat → Nat) (S : St) (x : Int32) (hI : InvM S) : CtI l D cc yX12_loadRoll cX12_loadRoll 3 .int 1 [.ref (ad 0), .int x] (MW cc ad S) (sX12_loadRoll S x) (MW cc ad (sX12_loadRoll_S S x)) := by
  refine CtI.of (plainFor_of_name (by decide +kernel)) rfl (Nat.le_of_ble_eq_true rfl) ?_
  intro p e s m args below meth c A Q hC hW hend ls hl
  obtain ⟨⟨hx, hb, hml, hown, hts⟩, hNW⟩ := id hC
  have hl : lv_has ls 3 [(0, .ref (ad 0)), (1, .int x)] := hl
  obtain ⟨⟨-, hn1_hI, hn2_hI⟩, ⟨-, hq_hI⟩, -, ⟨-, hh_hI⟩, hs_hI⟩ := id hI
  refine lv_iload_n hx hb dX12_loadRoll_0 rfl (lv_at hl 1 rfl) ?_
  refine lv_i2l hx hb dX12_loadRoll_1 rfl ?_
  refine lv_lconst (v := 1) hx hb dX12_loadRoll_2 rfl ?_
  refine q_ldc2 hC nX12_106 dX12_loadRoll_3 ?_
  refine q_SI hC hW (c_X12_in l D cc _ (x.toInt64) 1 1000000000) mX12_118 (by decide) rfl hl.1 rfl (Nat.le_of_ble_eq_true rfl) (by decide) dX12_loadRoll_6 (fun H locs hW => ?_)
  refine lv_if_ne (tgt := 15) hx hb dX12_loadRoll_9 (by decide) (fun c_9 => ?_) (fun c_9 => ?_)
  · skip
    refine lv_aload_n hx hb dX12_loadRoll_15 rfl (lv_at hl 0 rfl) ?_
    refine q_get hC hW kX12_41 0 (Mg0 cc ad S) (v := .ref (ad 11)) rfl dX12_loadRoll_16 ?_
    refine lv_bipush (v := 52) hx hb dX12_loadRoll_19 (by decide) ?_
    refine q_lald hC hW 11 (Mg11 cc ad S) (v := (lN (mQ S))) 52 rfl (by omega) (by decide) hI.2.1.1 dX12_loadRoll_21 ?_
    refine lv_l2i (v := nI (mQ S)) hx hb dX12_loadRoll_22 (lN_i _) ?_
    refine lv_istore_n (lv' := [(2, .int (nI (mQ S))), (0, .ref (ad 0)), (1, .int x)]) hx hb dX12_loadRoll_23 rfl hl (by decide) rfl (fun ls hl => ?_)
    refine lv_aload_n hx hb dX12_loadRoll_24 rfl (lv_at hl 1 rfl) ?_
    refine q_get hC hW kX12_41 0 (Mg0 cc ad S) (v := .ref (ad 11)) rfl dX12_loadRoll_25 ?_
    refine lv_bipush (v := 51) hx hb dX12_loadRoll_28 (by decide) ?_
    refine q_lald hC hW 11 (Mg11 cc ad S) (v := (S.2 11 51)) 51 rfl (by omega) (by decide) rfl dX12_loadRoll_30 ?_
    refine lv_lconst (v := 0) hx hb dX12_loadRoll_31 rfl ?_
    refine q_jne (tgt := 51) hC dX12_loadRoll_32 dX12_loadRoll_33 (by decide) (fun c_32 => ?_) (fun c_32 => ?_)
    · skip
      refine lv_iload_n hx hb dX12_loadRoll_51 rfl (lv_at hl 0 rfl) ?_
      refine lv_iconst (v := 4) hx hb dX12_loadRoll_52 (by decide) ?_
      refine q_icmp_ne_n (tgt := 59) hx hb (a := (mQ S)) (b := 4) rfl rfl (by omega) (by omega) dX12_loadRoll_53 (by decide) (fun c_53 => ?_) (fun c_53 => ?_)
      · skip
        refine lv_aload_n hx hb dX12_loadRoll_59 rfl (lv_at hl 1 rfl) ?_
        refine q_get hC hW kX12_41 0 (Mg0 cc ad S) (v := .ref (ad 11)) rfl dX12_loadRoll_60 ?_
        refine lv_bipush (v := 53) hx hb dX12_loadRoll_63 (by decide) ?_
        refine lv_iload_n hx hb dX12_loadRoll_65 rfl (lv_at hl 0 rfl) ?_
        refine lv_iadd hx hb dX12_loadRoll_66 ?_
        refine q_ri (v := nI (53 + (mQ S))) (nq_add (a := 53) (b := (mQ S)) rfl rfl) ?_
        refine lv_iload_n hx hb dX12_loadRoll_67 rfl (lv_at hl 2 rfl) ?_
        refine lv_i2l hx hb dX12_loadRoll_68 rfl ?_
        refine q_last hC hW 11 (Mg11 cc ad S) (53 + (mQ S)) rfl (by omega) (by decide) (Ms11 cc ad S (53 + (mQ S)) (x.toInt64)) dX12_loadRoll_69 (fun H locs hW => ?_)
        refine lv_aload_n hx hb dX12_loadRoll_70 rfl (lv_at hl 1 rfl) ?_
        refine q_get hC hW kX12_41 0 (Mg0 cc ad (sJ S 11 (53 + (mQ S)) (x.toInt64))) (v := .ref (ad 11)) rfl dX12_loadRoll_71 ?_
        refine lv_bipush (v := 52) hx hb dX12_loadRoll_74 (by decide) ?_
        refine lv_dup2_11 hx hb dX12_loadRoll_76 rfl rfl ?_
        refine q_lald hC hW 11 (Mg11 cc ad (sJ S 11 (53 + (mQ S)) (x.toInt64))) (v := ((sJ S 11 (53 + (mQ S)) (x.toInt64)).2 11 52)) 52 rfl (by omega) (by decide) rfl dX12_loadRoll_77 ?_
        refine lv_lconst (v := 1) hx hb dX12_loadRoll_78 rfl ?_
        refine lv_ladd hx hb dX12_loadRoll_79 ?_
        refine q_last hC hW 11 (Mg11 cc ad (sJ S 11 (53 + (mQ S)) (x.toInt64))) 52 rfl (by omega) (by decide) (Ms11 cc ad (sJ S 11 (53 + (mQ S)) (x.toInt64)) 52 (((sJ S 11 (53 + (mQ S)) (x.toInt64)).2 11 52) + 1)) dX12_loadRoll_80 (fun H locs hW => ?_)
        refine lv_iload_n hx hb dX12_loadRoll_81 rfl (lv_at hl 0 rfl) ?_
        refine lv_iconst (v := 1) hx hb dX12_loadRoll_82 (by decide) ?_
        refine lv_iadd hx hb dX12_loadRoll_83 ?_
        refine q_ri (v := nI ((mQ S) + 1)) (nq_add (a := (mQ S)) (b := 1) rfl rfl) ?_
        exact hend _ _ _ _ _ _ (by simp only [sX12_loadRoll, if_neg c_9, if_neg c_32, if_neg c_53]) (by simp only [sX12_loadRoll_S, if_neg c_9, if_neg c_32, if_neg c_53]) hW dX12_loadRoll_84
      · skip
        refine q_ldc hC nX12_128 dX12_loadRoll_56 ?_
        exact hend _ _ _ _ _ _ (by simp only [sX12_loadRoll, if_neg c_9, if_neg c_32, if_pos c_53]) (by simp only [sX12_loadRoll_S, if_neg c_9, if_neg c_32, if_pos c_53]) hW dX12_loadRoll_58
    · skip
      refine lv_iload_n hx hb dX12_loadRoll_36 rfl (lv_at hl 0 rfl) ?_
      refine q_if_ne_n (tgt := 51) hx hb (a := (mQ S)) rfl (by omega) dX12_loadRoll_37 (by decide) (fun c_37 => ?_) (fun c_37 => ?_)
      · skip
        refine lv_iload_n hx hb dX12_loadRoll_51 rfl (lv_at hl 0 rfl) ?_
        refine lv_iconst (v := 4) hx hb dX12_loadRoll_52 (by decide) ?_
        refine q_icmp_ne_n (tgt := 59) hx hb (a := (mQ S)) (b := 4) rfl rfl (by omega) (by omega) dX12_loadRoll_53 (by decide) (fun c_53 => ?_) (fun c_53 => ?_)
        · skip
          refine lv_aload_n hx hb dX12_loadRoll_59 rfl (lv_at hl 1 rfl) ?_
          refine q_get hC hW kX12_41 0 (Mg0 cc ad S) (v := .ref (ad 11)) rfl dX12_loadRoll_60 ?_
          refine lv_bipush (v := 53) hx hb dX12_loadRoll_63 (by decide) ?_
          refine lv_iload_n hx hb dX12_loadRoll_65 rfl (lv_at hl 0 rfl) ?_
          refine lv_iadd hx hb dX12_loadRoll_66 ?_
          refine q_ri (v := nI (53 + (mQ S))) (nq_add (a := 53) (b := (mQ S)) rfl rfl) ?_
          refine lv_iload_n hx hb dX12_loadRoll_67 rfl (lv_at hl 2 rfl) ?_
          refine lv_i2l hx hb dX12_loadRoll_68 rfl ?_
          refine q_last hC hW 11 (Mg11 cc ad S) (53 + (mQ S)) rfl (by omega) (by decide) (Ms11 cc ad S (53 + (mQ S)) (x.toInt64)) dX12_loadRoll_69 (fun H locs hW => ?_)
          refine lv_aload_n hx hb dX12_loadRoll_70 rfl (lv_at hl 1 rfl) ?_
          refine q_get hC hW kX12_41 0 (Mg0 cc ad (sJ S 11 (53 + (mQ S)) (x.toInt64))) (v := .ref (ad 11)) rfl dX12_loadRoll_71 ?_
          refine lv_bipush (v := 52) hx hb dX12_loadRoll_74 (by decide) ?_
          refine lv_dup2_11 hx hb dX12_loadRoll_76 rfl rfl ?_
          refine q_lald hC hW 11 (Mg11 cc ad (sJ S 11 (53 + (mQ S)) (x.toInt64))) (v := ((sJ S 11 (53 + (mQ S)) (x.toInt64)).2 11 52)) 52 rfl (by omega) (by decide) rfl dX12_loadRoll_77 ?_
          refine lv_lconst (v := 1) hx hb dX12_loadRoll_78 rfl ?_
          refine lv_ladd hx hb dX12_loadRoll_79 ?_
          refine q_last hC hW 11 (Mg11 cc ad (sJ S 11 (53 + (mQ S)) (x.toInt64))) 52 rfl (by omega) (by decide) (Ms11 cc ad (sJ S 11 (53 + (mQ S)) (x.toInt64)) 52 (((sJ S 11 (53 + (mQ S)) (x.toInt64)).2 11 52) + 1)) dX12_loadRoll_80 (fun H locs hW => ?_)
          refine lv_iload_n hx hb dX12_loadRoll_81 rfl (lv_at hl 0 rfl) ?_
          refine lv_iconst (v := 1) hx hb dX12_loadRoll_82 (by decide) ?_
          refine lv_iadd hx hb dX12_loadRoll_83 ?_
          refine q_ri (v := nI ((mQ S) + 1)) (nq_add (a := (mQ S)) (b := 1) rfl rfl) ?_
          exact hend _ _ _ _ _ _ (by simp only [sX12_loadRoll, if_neg c_9, if_pos c_32, if_neg c_37, if_neg c_53]) (by simp only [sX12_loadRoll_S, if_neg c_9, if_pos c_32, if_neg c_37, if_neg c_53]) hW dX12_loadRoll_84
        · skip
          refine q_ldc hC nX12_128 dX12_loadRoll_56 ?_
          exact hend _ _ _ _ _ _ (by simp only [sX12_loadRoll, if_neg c_9, if_pos c_32, if_neg c_37, if_pos c_53]) (by simp only [sX12_loadRoll_S, if_neg c_9, if_pos c_32, if_neg c_37, if_pos c_53]) hW dX12_loadRoll_58
      · skip
        refine lv_aload_n hx hb dX12_loadRoll_40 rfl (lv_at hl 1 rfl) ?_
        refine q_get hC hW kX12_41 0 (Mg0 cc ad S) (v := .ref (ad 11)) rfl dX12_loadRoll_41 ?_
        refine lv_bipush (v := 51) hx hb dX12_loadRoll_44 (by decide) ?_
        refine lv_iload_n hx hb dX12_loadRoll_46 rfl (lv_at hl 2 rfl) ?_
        refine lv_i2l hx hb dX12_loadRoll_47 rfl ?_
        refine q_last hC hW 11 (Mg11 cc ad S) 51 rfl (by omega) (by decide) (Ms11 cc ad S 51 (x.toInt64)) dX12_loadRoll_48 (fun H locs hW => ?_)
        refine lv_iconst (v := 0) hx hb dX12_loadRoll_49 (by decide) ?_
        exact hend _ _ _ _ _ _ (by simp only [sX12_loadRoll, if_neg c_9, if_pos c_32, if_pos c_37]) (by simp only [sX12_loadRoll_S, if_neg c_9, if_pos c_32, if_pos c_37]) hW dX12_loadRoll_50
  · skip
    refine q_ldc hC nX12_126 dX12_loadRoll_12 ?_
    exact hend _ _ _ _ _ _ (by simp only [sX12_loadRoll, if_pos c_9]) (by simp only [sX12_loadRoll_S, if_pos c_9]) hW dX12_loadRoll_14
def sX12_setRollLength (S : St) (x : Int32) : Int32 := (if (sX12_in (x.toInt64) 100000 1000000000) = 0 then (-1000002) else ((S.2 0 8).toInt32))
def sX12_setRollLength_S (S : St) (x : Int32) : St := (if (sX12_in (x.toInt64) 100000 1000000000) = 0 then S else (sJ S 0 8 (x.toInt64)))
set_option maxHeartbeats 4000000 in
set_option maxRecDepth 100000 in
theorem c_X12_setRollLength (l : Launch) (D : va_G) (cc : Nat → ClassId) (ad : Nat → Nat) (S : St) (x : Int32) : CtI l D cc yX12_setRollLength cX12_setRollLength 3 .int 1 [.ref (ad 0), .int x] (MW cc ad S) (sX12_setRollLength S x) (MW cc ad (sX12_setRollLength_S S x)) := by
  refine CtI.of (plainFor_of_name (by decide +kernel)) rfl (Nat.le_of_ble_eq_true rfl) ?_
  intro p e s m args below meth c A Q hC hW hend ls hl
  obtain ⟨⟨hx, hb, hml, hown, hts⟩, hNW⟩ := id hC
  have hl : lv_has ls 3 [(0, .ref (ad 0)), (1, .int x)] := hl
  refine lv_iload_n hx hb dX12_setRollLength_0 rfl (lv_at hl 1 rfl) ?_
  refine lv_i2l hx hb dX12_setRollLength_1 rfl ?_
  refine q_ldc2 hC nX12_114 dX12_setRollLength_2 ?_
  refine q_ldc2 hC nX12_106 dX12_setRollLength_5 ?_
  refine q_SI hC hW (c_X12_in l D cc _ (x.toInt64) 100000 1000000000) mX12_118 (by decide) rfl hl.1 rfl (Nat.le_of_ble_eq_true rfl) (by decide) dX12_setRollLength_8 (fun H locs hW => ?_)
  refine lv_if_ne (tgt := 17) hx hb dX12_setRollLength_11 (by decide) (fun c_11 => ?_) (fun c_11 => ?_)
  · skip
    refine lv_aload_n hx hb dX12_setRollLength_17 rfl (lv_at hl 0 rfl) ?_
    refine q_get hC hW kX12_108 0 (Mg0 cc ad S) (v := .long (S.2 0 8)) rfl dX12_setRollLength_18 ?_
    refine lv_l2i hx hb dX12_setRollLength_21 rfl ?_
    refine lv_istore_n (lv' := [(2, .int ((S.2 0 8).toInt32)), (0, .ref (ad 0)), (1, .int x)]) hx hb dX12_setRollLength_22 rfl hl (by decide) rfl (fun ls hl => ?_)
    refine lv_aload_n hx hb dX12_setRollLength_23 rfl (lv_at hl 1 rfl) ?_
    refine lv_iload_n hx hb dX12_setRollLength_24 rfl (lv_at hl 2 rfl) ?_
    refine lv_i2l hx hb dX12_setRollLength_25 rfl ?_
    refine q_putL hC hW kX12_108 0 (Mg0 cc ad S) (Ms0_19 cc ad S (x.toInt64)) (Nat.le_of_ble_eq_true rfl) dX12_setRollLength_26 (fun H locs hW => ?_)
    refine lv_iload_n hx hb dX12_setRollLength_29 rfl (lv_at hl 0 rfl) ?_
    exact hend _ _ _ _ _ _ (by simp only [sX12_setRollLength, if_neg c_11]) (by simp only [sX12_setRollLength_S, if_neg c_11]) hW dX12_setRollLength_30
  · skip
    refine q_ldc hC nX12_126 dX12_setRollLength_14 ?_
    exact hend _ _ _ _ _ _ (by simp only [sX12_setRollLength, if_pos c_11]) (by simp only [sX12_setRollLength_S, if_pos c_11]) hW dX12_setRollLength_16
theorem n_X12_equip (S : St) (i : Nat) (y : Int32) : (sX12_equip_S S i y).1 0 0 = S.1 0 0 := by
  unfold sX12_equip_S
  repeat' split
  all_goals rfl
def sX12_thread_no (S : St)  : Int32 := (-1000003)
set_option maxHeartbeats 4000000 in
set_option maxRecDepth 100000 in
theorem c_X12_thread_no (l : Launch) (D : va_G) (cc : Nat → ClassId) (ad : Nat → Nat) (S : St) (hs : S.2 11 49 = 0) : CtI l D cc yX12_thread cX12_thread 2 .int 2 [.ref (ad 0)] (MW cc ad S) (sX12_thread_no S ) (MW cc ad S) := by
  refine CtI.of (plainFor_of_name (by decide +kernel)) rfl (Nat.le_of_ble_eq_true rfl) ?_
  intro p e s m args below meth c A Q hC hW hend ls hl
  obtain ⟨⟨hx, hb, hml, hown, hts⟩, hNW⟩ := id hC
  have hl : lv_has ls 2 [(0, .ref (ad 0))] := hl
  refine lv_aload_n hx hb dX12_thread_0 rfl (lv_at hl 0 rfl) ?_
  refine q_get hC hW kX12_41 0 (Mg0 cc ad S) (v := .ref (ad 11)) rfl dX12_thread_1 ?_
  refine lv_bipush (v := 49) hx hb dX12_thread_4 (by decide) ?_
  refine q_lald hC hW 11 (Mg11 cc ad S) (v := (S.2 11 49)) 49 rfl (by omega) (by decide) rfl dX12_thread_6 ?_
  refine lv_lconst (v := 0) hx hb dX12_thread_7 rfl ?_
  refine q_jne (tgt := 15) hC dX12_thread_8 dX12_thread_9 (by decide) (fun c_8 => by exfalso; exact c_8 hs) (fun c_8 => ?_)
  refine q_ldc hC nX12_127 dX12_thread_12 ?_
  exact hend _ _ _ _ _ _ (by unfold sX12_thread_no; rfl) rfl hW dX12_thread_14
def KX12_thread_69_S (S : St)  : St := (if 0 ≤ (S.2 11 51) then (sJ (sJ (sJ (sJ S 11 49 0) 11 50 0) 11 62 0) 11 51 (S.2 11 51)) else (sJ (sJ (sJ (sJ S 11 49 0) 11 50 0) 11 62 0) 11 51 0))
def LX12_thread_71_S (S : St)  : Nat → St
  | 0 => (KX12_thread_69_S S)
  | k + 1 => (sX12_equip_S (sJ (sJ (LX12_thread_71_S S k) 11 (8 * k + 3) 0) 11 (8 * k + 5) 0) k ((LX12_thread_71_S S k).1 1 k))
theorem I69_thread (S : St) : (KX12_thread_69_S S).1 = S.1 := by
  unfold KX12_thread_69_S
  repeat' split
  all_goals rfl
theorem n71_thread (S : St) (k : Nat) : (LX12_thread_71_S S k).1 0 0 = S.1 0 0 := by
  induction k with
  | zero => exact congrFun (congrFun (I69_thread S) 0) 0
  | succ k ih => exact (n_X12_equip _ _ _).trans ih
def sX12_thread (S : St)  : Int32 := 1
def sX12_thread_S (S : St)  : St := (LX12_thread_71_S S (cN S))
set_option maxHeartbeats 4000000 in
set_option maxRecDepth 100000 in
theorem c_X12_thread (l : Launch) (D : va_G) (cc : Nat → ClassId) (ad : Nat → Nat) (S : St) (hI : InvM S) (hs : ¬ S.2 11 49 = 0) : CtI l D cc yX12_thread cX12_thread 2 .int 2 [.ref (ad 0)] (MW cc ad S) (sX12_thread S ) (MW cc ad (sX12_thread_S S )) := by
  refine CtI.of (plainFor_of_name (by decide +kernel)) rfl (Nat.le_of_ble_eq_true rfl) ?_
  intro p e s m args below meth c A Q hC hW hend ls hl
  obtain ⟨⟨hx, hb, hml, hown, hts⟩, hNW⟩ := id hC
  have hl : lv_has ls 2 [(0, .ref (ad 0))] := hl
  obtain ⟨⟨-, hn1_hI, hn2_hI⟩, ⟨-, hq_hI⟩, -, ⟨-, hh_hI⟩, hs_hI⟩ := id hI
  have hcut69 : ∀ (H : Heap) (locs : List Loc) (ls : Array Slot), Wd D cc (MW cc ad (KX12_thread_69_S S)) A s.heap H locs s → lv_has ls 2 [(0, .ref (ad 0))] → W p l e (rmD 2) s m args below meth c H locs 0 0 Q (F0 m 69 ls []) := by
    intro H locs ls hW hl
    refine lv_iconst (v := 0) hx hb dX12_thread_69 (by decide) ?_
    refine lv_istore_n (lv' := [(1, .int 0), (0, .ref (ad 0))]) hx hb dX12_thread_70 rfl hl (by decide) rfl (fun ls hl => ?_)
    have loop1 : ∀ (rn k : Nat), k + rn = (cN S) → ∀ (H : Heap) (locs : List Loc) (ls : Array Slot), Wd D cc (MW cc ad (LX12_thread_71_S S k)) A s.heap H locs s → lv_has ls 2 [(0, .ref (ad 0)), (1, .int (nI k))] → W p l e (rmD 2) s m args below meth c H locs 0 0 Q (F0 m 71 ls []) := by
      intro rn
      induction rn with
      | zero =>
        intro k hk H locs ls hW hl
        obtain rfl : (cN S) = k := by omega
        refine lv_iload_n hx hb dX12_thread_71 rfl (lv_at hl 1 rfl) ?_
        refine lv_aload_n hx hb dX12_thread_72 rfl (lv_at hl 0 rfl) ?_
        refine q_get hC hW kX12_69 0 (Mg0 cc ad (LX12_thread_71_S S (cN S))) (v := .int (nI (cN S))) (congrArg (fun z => some (Value.int z)) ((n71_thread S (cN S)).trans hI.1.1)) dX12_thread_73 ?_
        refine q_icmp_ge_n (tgt := 121) hx hb (a := (cN S)) (b := (cN S)) rfl rfl (by omega) (by omega) dX12_thread_76 (by decide) (fun c_76 => ?_) (fun c_76 => by exfalso; omega)
        refine lv_iconst (v := 1) hx hb dX12_thread_121 (by decide) ?_
        exact hend _ _ _ _ _ _ (by unfold sX12_thread; rfl) (by unfold sX12_thread_S; rfl) hW dX12_thread_122
      | succ rn ih =>
        intro k hk H locs ls hW hl
        have hkN : k < (cN S) := by omega
        refine lv_iload_n hx hb dX12_thread_71 rfl (lv_at hl 1 rfl) ?_
        refine lv_aload_n hx hb dX12_thread_72 rfl (lv_at hl 0 rfl) ?_
        refine q_get hC hW kX12_69 0 (Mg0 cc ad (LX12_thread_71_S S k)) (v := .int (nI (cN S))) (congrArg (fun z => some (Value.int z)) ((n71_thread S k).trans hI.1.1)) dX12_thread_73 ?_
        refine q_icmp_ge_n (tgt := 121) hx hb (a := k) (b := (cN S)) rfl rfl (by omega) (by omega) dX12_thread_76 (by decide) (fun c_76 => by exfalso; omega) (fun c_76 => ?_)
        refine lv_aload_n hx hb dX12_thread_79 rfl (lv_at hl 0 rfl) ?_
        refine q_get hC hW kX12_41 0 (Mg0 cc ad (LX12_thread_71_S S k)) (v := .ref (ad 11)) rfl dX12_thread_80 ?_
        refine lv_bipush (v := 8) hx hb dX12_thread_83 (by decide) ?_
        refine lv_iload_n hx hb dX12_thread_85 rfl (lv_at hl 1 rfl) ?_
        refine lv_imul hx hb dX12_thread_86 ?_
        refine q_ri (v := nI (8 * k)) (nq_mul (a := 8) (b := k) rfl rfl) ?_
        refine lv_iconst (v := 3) hx hb dX12_thread_87 (by decide) ?_
        refine lv_iadd hx hb dX12_thread_88 ?_
        refine q_ri (v := nI (8 * k + 3)) ((nq_add (a := (8 * k)) (b := 3) rfl rfl).trans (congrArg nI (by omega))) ?_
        refine lv_lconst (v := 0) hx hb dX12_thread_89 rfl ?_
        refine q_last hC hW 11 (Mg11 cc ad (LX12_thread_71_S S k)) (8 * k + 3) rfl (by omega) (by decide) (Ms11 cc ad (LX12_thread_71_S S k) (8 * k + 3) 0) dX12_thread_90 (fun H locs hW => ?_)
        refine lv_aload_n hx hb dX12_thread_91 rfl (lv_at hl 0 rfl) ?_
        refine q_get hC hW kX12_41 0 (Mg0 cc ad (sJ (LX12_thread_71_S S k) 11 (8 * k + 3) 0)) (v := .ref (ad 11)) rfl dX12_thread_92 ?_
        refine lv_bipush (v := 8) hx hb dX12_thread_95 (by decide) ?_
        refine lv_iload_n hx hb dX12_thread_97 rfl (lv_at hl 1 rfl) ?_
        refine lv_imul hx hb dX12_thread_98 ?_
        refine q_ri (v := nI (8 * k)) (nq_mul (a := 8) (b := k) rfl rfl) ?_
        refine lv_iconst (v := 5) hx hb dX12_thread_99 (by decide) ?_
        refine lv_iadd hx hb dX12_thread_100 ?_
        refine q_ri (v := nI (8 * k + 5)) ((nq_add (a := (8 * k)) (b := 5) rfl rfl).trans (congrArg nI (by omega))) ?_
        refine lv_lconst (v := 0) hx hb dX12_thread_101 rfl ?_
        refine q_last hC hW 11 (Mg11 cc ad (sJ (LX12_thread_71_S S k) 11 (8 * k + 3) 0)) (8 * k + 5) rfl (by omega) (by decide) (Ms11 cc ad (sJ (LX12_thread_71_S S k) 11 (8 * k + 3) 0) (8 * k + 5) 0) dX12_thread_102 (fun H locs hW => ?_)
        refine lv_aload_n hx hb dX12_thread_103 rfl (lv_at hl 0 rfl) ?_
        refine lv_iload_n hx hb dX12_thread_104 rfl (lv_at hl 1 rfl) ?_
        refine lv_aload_n hx hb dX12_thread_105 rfl (lv_at hl 0 rfl) ?_
        refine q_get hC hW kX12_13 0 (Mg0 cc ad (sJ (sJ (LX12_thread_71_S S k) 11 (8 * k + 3) 0) 11 (8 * k + 5) 0)) (v := .ref (ad 2)) rfl dX12_thread_106 ?_
        refine lv_iload_n hx hb dX12_thread_109 rfl (lv_at hl 1 rfl) ?_
        refine q_iald hC hW 2 (Mg2 cc ad (sJ (sJ (LX12_thread_71_S S k) 11 (8 * k + 3) 0) 11 (8 * k + 5) 0)) (v := ((LX12_thread_71_S S k).1 1 k)) k rfl (by omega) (by decide) rfl dX12_thread_110 ?_
        refine q_VI hC hW (c_X12_equip l D cc ad (sJ (sJ (LX12_thread_71_S S k) 11 (8 * k + 3) 0) 11 (8 * k + 5) 0) k ((LX12_thread_71_S S k).1 1 k) (by omega)) mX12_141 0 (Mg0 cc ad (sJ (sJ (LX12_thread_71_S S k) 11 (8 * k + 3) 0) 11 (8 * k + 5) 0)) rfl (by decide) rfl hl.1 rfl (Nat.le_of_ble_eq_true rfl) (by decide) dX12_thread_111 (fun H locs hW => ?_)
        refine lv_pop hx hb dX12_thread_114 rfl ?_
        refine lv_iinc (v := (nI (k + 1))) (lv' := [(1, .int (nI (k + 1))), (0, .ref (ad 0))]) hx hb dX12_thread_115 hl (k := 1) rfl (nq_inc k 1) (by decide) rfl (fun ls hl => ?_)
        refine lv_goto (tgt := 71) hx hb dX12_thread_118 (by decide) ?_
        exact ih (k + 1) (by omega) _ _ _ (by simp only [LX12_thread_71_S]; exact hW) (lv_sub hl [1, 0] rfl)
    exact loop1 (cN S) 0 (by omega) _ _ _ hW (lv_sub hl [1, 0] rfl)
  refine lv_aload_n hx hb dX12_thread_0 rfl (lv_at hl 0 rfl) ?_
  refine q_get hC hW kX12_41 0 (Mg0 cc ad S) (v := .ref (ad 11)) rfl dX12_thread_1 ?_
  refine lv_bipush (v := 49) hx hb dX12_thread_4 (by decide) ?_
  refine q_lald hC hW 11 (Mg11 cc ad S) (v := (S.2 11 49)) 49 rfl (by omega) (by decide) rfl dX12_thread_6 ?_
  refine lv_lconst (v := 0) hx hb dX12_thread_7 rfl ?_
  refine q_jne (tgt := 15) hC dX12_thread_8 dX12_thread_9 (by decide) (fun c_8 => ?_) (fun c_8 => by exfalso; exact hs c_8)
  refine lv_aload_n hx hb dX12_thread_15 rfl (lv_at hl 0 rfl) ?_
  refine q_get hC hW kX12_41 0 (Mg0 cc ad S) (v := .ref (ad 11)) rfl dX12_thread_16 ?_
  refine lv_bipush (v := 49) hx hb dX12_thread_19 (by decide) ?_
  refine lv_lconst (v := 0) hx hb dX12_thread_21 rfl ?_
  refine q_last hC hW 11 (Mg11 cc ad S) 49 rfl (by omega) (by decide) (Ms11 cc ad S 49 0) dX12_thread_22 (fun H locs hW => ?_)
  refine lv_aload_n hx hb dX12_thread_23 rfl (lv_at hl 0 rfl) ?_
  refine q_get hC hW kX12_41 0 (Mg0 cc ad (sJ S 11 49 0)) (v := .ref (ad 11)) rfl dX12_thread_24 ?_
  refine lv_bipush (v := 50) hx hb dX12_thread_27 (by decide) ?_
  refine lv_lconst (v := 0) hx hb dX12_thread_29 rfl ?_
  refine q_last hC hW 11 (Mg11 cc ad (sJ S 11 49 0)) 50 rfl (by omega) (by decide) (Ms11 cc ad (sJ S 11 49 0) 50 0) dX12_thread_30 (fun H locs hW => ?_)
  refine lv_aload_n hx hb dX12_thread_31 rfl (lv_at hl 0 rfl) ?_
  refine q_get hC hW kX12_41 0 (Mg0 cc ad (sJ (sJ S 11 49 0) 11 50 0)) (v := .ref (ad 11)) rfl dX12_thread_32 ?_
  refine lv_bipush (v := 62) hx hb dX12_thread_35 (by decide) ?_
  refine lv_lconst (v := 0) hx hb dX12_thread_37 rfl ?_
  refine q_last hC hW 11 (Mg11 cc ad (sJ (sJ S 11 49 0) 11 50 0)) 62 rfl (by omega) (by decide) (Ms11 cc ad (sJ (sJ S 11 49 0) 11 50 0) 62 0) dX12_thread_38 (fun H locs hW => ?_)
  refine lv_aload_n hx hb dX12_thread_39 rfl (lv_at hl 0 rfl) ?_
  refine q_get hC hW kX12_41 0 (Mg0 cc ad (sJ (sJ (sJ S 11 49 0) 11 50 0) 11 62 0)) (v := .ref (ad 11)) rfl dX12_thread_40 ?_
  refine lv_bipush (v := 51) hx hb dX12_thread_43 (by decide) ?_
  refine lv_aload_n hx hb dX12_thread_45 rfl (lv_at hl 0 rfl) ?_
  refine q_get hC hW kX12_41 0 (Mg0 cc ad (sJ (sJ (sJ S 11 49 0) 11 50 0) 11 62 0)) (v := .ref (ad 11)) rfl dX12_thread_46 ?_
  refine lv_bipush (v := 51) hx hb dX12_thread_49 (by decide) ?_
  refine q_lald hC hW 11 (Mg11 cc ad (sJ (sJ (sJ S 11 49 0) 11 50 0) 11 62 0)) (v := (S.2 11 51)) 51 rfl (by omega) (by decide) rfl dX12_thread_51 ?_
  refine lv_lconst (v := 0) hx hb dX12_thread_52 rfl ?_
  refine q_jge (tgt := 61) hC dX12_thread_53 dX12_thread_54 (by decide) (fun c_53 => ?_) (fun c_53 => ?_)
  · skip
    refine lv_aload_n hx hb dX12_thread_61 rfl (lv_at hl 0 rfl) ?_
    refine q_get hC hW kX12_41 0 (Mg0 cc ad (sJ (sJ (sJ S 11 49 0) 11 50 0) 11 62 0)) (v := .ref (ad 11)) rfl dX12_thread_62 ?_
    refine lv_bipush (v := 51) hx hb dX12_thread_65 (by decide) ?_
    refine q_lald hC hW 11 (Mg11 cc ad (sJ (sJ (sJ S 11 49 0) 11 50 0) 11 62 0)) (v := (S.2 11 51)) 51 rfl (by omega) (by decide) rfl dX12_thread_67 ?_
    refine q_last hC hW 11 (Mg11 cc ad (sJ (sJ (sJ S 11 49 0) 11 50 0) 11 62 0)) 51 rfl (by omega) (by decide) (Ms11 cc ad (sJ (sJ (sJ S 11 49 0) 11 50 0) 11 62 0) 51 (S.2 11 51)) dX12_thread_68 (fun H locs hW => ?_)
    exact hcut69 _ _ _ (by simp only [KX12_thread_69_S, if_pos c_53]; exact hW) (lv_sub hl [0] rfl)
  · skip
    refine lv_lconst (v := 0) hx hb dX12_thread_57 rfl ?_
    refine lv_goto (tgt := 68) hx hb dX12_thread_58 (by decide) ?_
    refine q_last hC hW 11 (Mg11 cc ad (sJ (sJ (sJ S 11 49 0) 11 50 0) 11 62 0)) 51 rfl (by omega) (by decide) (Ms11 cc ad (sJ (sJ (sJ S 11 49 0) 11 50 0) 11 62 0) 51 0) dX12_thread_68 (fun H locs hW => ?_)
    exact hcut69 _ _ _ (by simp only [KX12_thread_69_S, if_neg c_53]; exact hW) (lv_sub hl [0] rfl)
def sX12_value (S : St) (x : Int32) : Int32 := (if x = 0 then ((S.2 11 48).toInt32) else (if x = 1 then ((S.2 11 49).toInt32) else (if x = 2 then ((S.2 11 50).toInt32) else (if x = 3 then (S.1 0 0) else (if x = 4 then ((S.2 11 62).toInt32) else (if x = 5 then ((S.2 11 58).toInt32) else (if x = 6 then ((S.2 11 52).toInt32) else (if x = 7 then ((S.2 11 63).toInt32) else (-1000002)))))))))
set_option maxHeartbeats 4000000 in
set_option maxRecDepth 100000 in
theorem c_X12_value (l : Launch) (D : va_G) (cc : Nat → ClassId) (ad : Nat → Nat) (S : St) (x : Int32) : CtI l D cc yX12_value cX12_value 2 .int 0 [.ref (ad 0), .int x] (MW cc ad S) (sX12_value S x) (MW cc ad S) := by
  refine CtI.of (plainFor_of_name (by decide +kernel)) rfl (Nat.le_of_ble_eq_true rfl) ?_
  intro p e s m args below meth c A Q hC hW hend ls hl
  obtain ⟨⟨hx, hb, hml, hown, hts⟩, hNW⟩ := id hC
  have hl : lv_has ls 2 [(0, .ref (ad 0)), (1, .int x)] := hl
  refine lv_iload_n hx hb dX12_value_0 rfl (lv_at hl 1 rfl) ?_
  by_cases c_1_0 : x = 0
  · skip
    refine lv_tableIn (tgt := 48) (off := 47) hx hb dX12_value_1 (by rw [c_1_0]; decide) (by rw [c_1_0]; decide) (by rw [c_1_0]; rfl) (by decide) ?_
    refine lv_aload_n hx hb dX12_value_48 rfl (lv_at hl 0 rfl) ?_
    refine q_get hC hW kX12_41 0 (Mg0 cc ad S) (v := .ref (ad 11)) rfl dX12_value_49 ?_
    refine lv_bipush (v := 48) hx hb dX12_value_52 (by decide) ?_
    refine q_lald hC hW 11 (Mg11 cc ad S) (v := (S.2 11 48)) 48 rfl (by omega) (by decide) rfl dX12_value_54 ?_
    refine lv_l2i hx hb dX12_value_55 rfl ?_
    exact hend _ _ _ _ _ _ (by simp only [sX12_value, if_pos c_1_0]) rfl hW dX12_value_56
  by_cases c_1_1 : x = 1
  · skip
    refine lv_tableIn (tgt := 57) (off := 56) hx hb dX12_value_1 (by rw [c_1_1]; decide) (by rw [c_1_1]; decide) (by rw [c_1_1]; rfl) (by decide) ?_
    refine lv_aload_n hx hb dX12_value_57 rfl (lv_at hl 0 rfl) ?_
    refine q_get hC hW kX12_41 0 (Mg0 cc ad S) (v := .ref (ad 11)) rfl dX12_value_58 ?_
    refine lv_bipush (v := 49) hx hb dX12_value_61 (by decide) ?_
    refine q_lald hC hW 11 (Mg11 cc ad S) (v := (S.2 11 49)) 49 rfl (by omega) (by decide) rfl dX12_value_63 ?_
    refine lv_l2i hx hb dX12_value_64 rfl ?_
    exact hend _ _ _ _ _ _ (by simp only [sX12_value, if_neg c_1_0, if_pos c_1_1]) rfl hW dX12_value_65
  by_cases c_1_2 : x = 2
  · skip
    refine lv_tableIn (tgt := 66) (off := 65) hx hb dX12_value_1 (by rw [c_1_2]; decide) (by rw [c_1_2]; decide) (by rw [c_1_2]; rfl) (by decide) ?_
    refine lv_aload_n hx hb dX12_value_66 rfl (lv_at hl 0 rfl) ?_
    refine q_get hC hW kX12_41 0 (Mg0 cc ad S) (v := .ref (ad 11)) rfl dX12_value_67 ?_
    refine lv_bipush (v := 50) hx hb dX12_value_70 (by decide) ?_
    refine q_lald hC hW 11 (Mg11 cc ad S) (v := (S.2 11 50)) 50 rfl (by omega) (by decide) rfl dX12_value_72 ?_
    refine lv_l2i hx hb dX12_value_73 rfl ?_
    exact hend _ _ _ _ _ _ (by simp only [sX12_value, if_neg c_1_0, if_neg c_1_1, if_pos c_1_2]) rfl hW dX12_value_74
  by_cases c_1_3 : x = 3
  · skip
    refine lv_tableIn (tgt := 75) (off := 74) hx hb dX12_value_1 (by rw [c_1_3]; decide) (by rw [c_1_3]; decide) (by rw [c_1_3]; rfl) (by decide) ?_
    refine lv_aload_n hx hb dX12_value_75 rfl (lv_at hl 0 rfl) ?_
    refine q_get hC hW kX12_69 0 (Mg0 cc ad S) (v := .int (S.1 0 0)) rfl dX12_value_76 ?_
    exact hend _ _ _ _ _ _ (by simp only [sX12_value, if_neg c_1_0, if_neg c_1_1, if_neg c_1_2, if_pos c_1_3]) rfl hW dX12_value_79
  by_cases c_1_4 : x = 4
  · skip
    refine lv_tableIn (tgt := 80) (off := 79) hx hb dX12_value_1 (by rw [c_1_4]; decide) (by rw [c_1_4]; decide) (by rw [c_1_4]; rfl) (by decide) ?_
    refine lv_aload_n hx hb dX12_value_80 rfl (lv_at hl 0 rfl) ?_
    refine q_get hC hW kX12_41 0 (Mg0 cc ad S) (v := .ref (ad 11)) rfl dX12_value_81 ?_
    refine lv_bipush (v := 62) hx hb dX12_value_84 (by decide) ?_
    refine q_lald hC hW 11 (Mg11 cc ad S) (v := (S.2 11 62)) 62 rfl (by omega) (by decide) rfl dX12_value_86 ?_
    refine lv_l2i hx hb dX12_value_87 rfl ?_
    exact hend _ _ _ _ _ _ (by simp only [sX12_value, if_neg c_1_0, if_neg c_1_1, if_neg c_1_2, if_neg c_1_3, if_pos c_1_4]) rfl hW dX12_value_88
  by_cases c_1_5 : x = 5
  · skip
    refine lv_tableIn (tgt := 89) (off := 88) hx hb dX12_value_1 (by rw [c_1_5]; decide) (by rw [c_1_5]; decide) (by rw [c_1_5]; rfl) (by decide) ?_
    refine lv_aload_n hx hb dX12_value_89 rfl (lv_at hl 0 rfl) ?_
    refine q_get hC hW kX12_41 0 (Mg0 cc ad S) (v := .ref (ad 11)) rfl dX12_value_90 ?_
    refine lv_bipush (v := 58) hx hb dX12_value_93 (by decide) ?_
    refine q_lald hC hW 11 (Mg11 cc ad S) (v := (S.2 11 58)) 58 rfl (by omega) (by decide) rfl dX12_value_95 ?_
    refine lv_l2i hx hb dX12_value_96 rfl ?_
    exact hend _ _ _ _ _ _ (by simp only [sX12_value, if_neg c_1_0, if_neg c_1_1, if_neg c_1_2, if_neg c_1_3, if_neg c_1_4, if_pos c_1_5]) rfl hW dX12_value_97
  by_cases c_1_6 : x = 6
  · skip
    refine lv_tableIn (tgt := 98) (off := 97) hx hb dX12_value_1 (by rw [c_1_6]; decide) (by rw [c_1_6]; decide) (by rw [c_1_6]; rfl) (by decide) ?_
    refine lv_aload_n hx hb dX12_value_98 rfl (lv_at hl 0 rfl) ?_
    refine q_get hC hW kX12_41 0 (Mg0 cc ad S) (v := .ref (ad 11)) rfl dX12_value_99 ?_
    refine lv_bipush (v := 52) hx hb dX12_value_102 (by decide) ?_
    refine q_lald hC hW 11 (Mg11 cc ad S) (v := (S.2 11 52)) 52 rfl (by omega) (by decide) rfl dX12_value_104 ?_
    refine lv_l2i hx hb dX12_value_105 rfl ?_
    exact hend _ _ _ _ _ _ (by simp only [sX12_value, if_neg c_1_0, if_neg c_1_1, if_neg c_1_2, if_neg c_1_3, if_neg c_1_4, if_neg c_1_5, if_pos c_1_6]) rfl hW dX12_value_106
  by_cases c_1_7 : x = 7
  · skip
    refine lv_tableIn (tgt := 107) (off := 106) hx hb dX12_value_1 (by rw [c_1_7]; decide) (by rw [c_1_7]; decide) (by rw [c_1_7]; rfl) (by decide) ?_
    refine lv_aload_n hx hb dX12_value_107 rfl (lv_at hl 0 rfl) ?_
    refine q_get hC hW kX12_41 0 (Mg0 cc ad S) (v := .ref (ad 11)) rfl dX12_value_108 ?_
    refine lv_bipush (v := 63) hx hb dX12_value_111 (by decide) ?_
    refine q_lald hC hW 11 (Mg11 cc ad S) (v := (S.2 11 63)) 63 rfl (by omega) (by decide) rfl dX12_value_113 ?_
    refine lv_l2i hx hb dX12_value_114 rfl ?_
    exact hend _ _ _ _ _ _ (by simp only [sX12_value, if_neg c_1_0, if_neg c_1_1, if_neg c_1_2, if_neg c_1_3, if_neg c_1_4, if_neg c_1_5, if_neg c_1_6, if_pos c_1_7]) rfl hW dX12_value_115
  refine lv_tableOut (tgt := 116) hx hb dX12_value_1 (sw_out 8 (by intro k hk; rcases (show k = 0 ∨ k = 1 ∨ k = 2 ∨ k = 3 ∨ k = 4 ∨ k = 5 ∨ k = 6 ∨ k = 7 by omega) with rfl | rfl | rfl | rfl | rfl | rfl | rfl | rfl <;> assumption)) (by decide) ?_
  refine q_ldc hC nX12_126 dX12_value_116 ?_
  exact hend _ _ _ _ _ _ (by simp only [sX12_value, if_neg c_1_0, if_neg c_1_1, if_neg c_1_2, if_neg c_1_3, if_neg c_1_4, if_neg c_1_5, if_neg c_1_6, if_neg c_1_7]) rfl hW dX12_value_118
def sX12_breakAt (S : St)  : Int32 := (if (S.2 11 59) = 0 then (-1000005) else ((S.2 11 60).toInt32))
set_option maxHeartbeats 4000000 in
set_option maxRecDepth 100000 in
theorem c_X12_breakAt (l : Launch) (D : va_G) (cc : Nat → ClassId) (ad : Nat → Nat) (S : St) : CtI l D cc yX12_breakAt cX12_breakAt 1 .int 0 [.ref (ad 0)] (MW cc ad S) (sX12_breakAt S ) (MW cc ad S) := by
  refine CtI.of (plainFor_of_name (by decide +kernel)) rfl (Nat.le_of_ble_eq_true rfl) ?_
  intro p e s m args below meth c A Q hC hW hend ls hl
  obtain ⟨⟨hx, hb, hml, hown, hts⟩, hNW⟩ := id hC
  have hl : lv_has ls 1 [(0, .ref (ad 0))] := hl
  refine lv_aload_n hx hb dX12_breakAt_0 rfl (lv_at hl 0 rfl) ?_
  refine q_get hC hW kX12_41 0 (Mg0 cc ad S) (v := .ref (ad 11)) rfl dX12_breakAt_1 ?_
  refine lv_bipush (v := 59) hx hb dX12_breakAt_4 (by decide) ?_
  refine q_lald hC hW 11 (Mg11 cc ad S) (v := (S.2 11 59)) 59 rfl (by omega) (by decide) rfl dX12_breakAt_6 ?_
  refine lv_lconst (v := 0) hx hb dX12_breakAt_7 rfl ?_
  refine q_jne (tgt := 17) hC dX12_breakAt_8 dX12_breakAt_9 (by decide) (fun c_8 => ?_) (fun c_8 => ?_)
  · skip
    refine lv_aload_n hx hb dX12_breakAt_17 rfl (lv_at hl 0 rfl) ?_
    refine q_get hC hW kX12_41 0 (Mg0 cc ad S) (v := .ref (ad 11)) rfl dX12_breakAt_18 ?_
    refine lv_bipush (v := 60) hx hb dX12_breakAt_21 (by decide) ?_
    refine q_lald hC hW 11 (Mg11 cc ad S) (v := (S.2 11 60)) 60 rfl (by omega) (by decide) rfl dX12_breakAt_23 ?_
    refine lv_l2i hx hb dX12_breakAt_24 rfl ?_
    exact hend _ _ _ _ _ _ (by simp only [sX12_breakAt, if_neg c_8]) rfl hW dX12_breakAt_25
  · skip
    refine q_ldc hC nX12_229 dX12_breakAt_12 ?_
    refine lv_goto (tgt := 25) hx hb dX12_breakAt_14 (by decide) ?_
    exact hend _ _ _ _ _ _ (by simp only [sX12_breakAt, if_pos c_8]) rfl hW dX12_breakAt_25
def sX12_measure (S : St) (j : Nat) (y : Int32) : Int64 := (if (sX12_in (y.toInt64) 0 7) = 0 then sX12_lost else (if y ≤ 5 then (if y = 0 then (sX12_tension S j) else (if y = 1 then (S.2 11 (8 * j)) else (if y = 2 then (sX12_length S j) else (if y = 3 then (S.2 11 (8 * j + 6)) else (if y = 4 then (S.2 11 (8 * j + 5)) else (if y = 5 then ((sX12_marksIn S j (mM S)).toInt64) else (if y = 6 then (S.2 11 (8 * j + 1)) else (S.2 11 (8 * j + 2))))))))) else (if (S.1 1 j) = 1 then (if y = 0 then (sX12_tension S j) else (if y = 1 then (S.2 11 (8 * j)) else (if y = 2 then (sX12_length S j) else (if y = 3 then (S.2 11 (8 * j + 6)) else (if y = 4 then (S.2 11 (8 * j + 5)) else (if y = 5 then ((sX12_marksIn S j (mM S)).toInt64) else (if y = 6 then (S.2 11 (8 * j + 1)) else (S.2 11 (8 * j + 2))))))))) else sX12_lost)))
set_option maxHeartbeats 4000000 in
set_option maxRecDepth 100000 in
theorem c_X12_measure (l : Launch) (D : va_G) (cc : Nat → ClassId) (ad : Nat → Nat) (S : St) (j : Nat) (y : Int32) (hI : InvM S) (hj : j < cN S) (hu : ¬ S.2 11 (8 * j) = 0) : CtL l D cc yX12_measure cX12_measure 3 3 [.ref (ad 0), .int (nI j), .int y] (MW cc ad S) (sX12_measure S j y) (MW cc ad S) := by
  refine CtL.of (plainFor_of_name (by decide +kernel)) (Nat.le_of_ble_eq_true rfl) ?_
  intro p e s m args below meth c A Q hC hW hend ls hl
  obtain ⟨⟨hx, hb, hml, hown, hts⟩, hNW⟩ := id hC
  have hl : lv_has ls 3 [(0, .ref (ad 0)), (1, .int (nI j)), (2, .int y)] := hl
  obtain ⟨⟨-, hn1_hI, hn2_hI⟩, ⟨-, hq_hI⟩, -, ⟨-, hh_hI⟩, hs_hI⟩ := id hI
  refine lv_aload_n hx hb dX12_measure_0 rfl (lv_at hl 0 rfl) ?_
  refine lv_iload_n hx hb dX12_measure_1 rfl (lv_at hl 1 rfl) ?_
  refine q_VI hC hW (c_X12_noSpan l D cc ad S (nI j)) mX12_135 0 (Mg0 cc ad S) rfl (by decide) rfl hl.1 rfl (Nat.le_of_ble_eq_true rfl) (by decide) dX12_measure_2 (fun H locs hW => ?_)
  refine q_ri (v := nI 0) (noSpan_0 S j hI hj) ?_
  refine q_if_ne_n (tgt := 35) hx hb (a := 0) rfl (by omega) dX12_measure_5 (by decide) (fun c_5 => by exfalso; omega) (fun c_5 => ?_)
  refine lv_iload_n hx hb dX12_measure_8 rfl (lv_at hl 2 rfl) ?_
  refine lv_i2l hx hb dX12_measure_9 rfl ?_
  refine lv_lconst (v := 0) hx hb dX12_measure_10 rfl ?_
  refine q_ldc2 hC nX12_230 dX12_measure_11 ?_
  refine q_SI hC hW (c_X12_in l D cc _ (y.toInt64) 0 7) mX12_118 (by decide) rfl hl.1 rfl (Nat.le_of_ble_eq_true rfl) (by decide) dX12_measure_14 (fun H locs hW => ?_)
  refine lv_if_eq (tgt := 35) hx hb dX12_measure_17 (by decide) (fun c_17 => ?_) (fun c_17 => ?_)
  · skip
    refine q_SL hC hW (c_X12_lost l D cc _) mX12_232 (by decide) rfl hl.1 rfl (Nat.le_of_ble_eq_true rfl) (by decide) dX12_measure_35 (fun H locs hW => ?_)
    exact hend _ _ _ _ _ _ (by simp only [sX12_measure, if_pos c_17]) rfl hW dX12_measure_38
  · skip
    refine lv_iload_n hx hb dX12_measure_20 rfl (lv_at hl 2 rfl) ?_
    refine lv_iconst (v := 5) hx hb dX12_measure_21 (by decide) ?_
    refine lv_icmp_le (tgt := 39) hx hb dX12_measure_22 (by decide) (fun c_22 => ?_) (fun c_22 => ?_)
    · skip
      refine lv_iload_n hx hb dX12_measure_39 rfl (lv_at hl 2 rfl) ?_
      by_cases c_40_0 : y = 0
      · skip
        refine lv_tableIn (tgt := 84) (off := 44) hx hb dX12_measure_40 (by rw [c_40_0]; decide) (by rw [c_40_0]; decide) (by rw [c_40_0]; rfl) (by decide) ?_
        refine lv_aload_n hx hb dX12_measure_84 rfl (lv_at hl 0 rfl) ?_
        refine lv_iload_n hx hb dX12_measure_85 rfl (lv_at hl 1 rfl) ?_
        refine q_VL hC hW (c_X12_tension l D cc ad S j (by omega) hu) mX12_186 0 (Mg0 cc ad S) rfl (by decide) rfl hl.1 rfl (Nat.le_of_ble_eq_true rfl) (by decide) dX12_measure_86 (fun H locs hW => ?_)
        exact hend _ _ _ _ _ _ (by simp only [sX12_measure, if_neg c_17, if_pos c_22, if_pos c_40_0]) rfl hW dX12_measure_89
      by_cases c_40_1 : y = 1
      · skip
        refine lv_tableIn (tgt := 90) (off := 50) hx hb dX12_measure_40 (by rw [c_40_1]; decide) (by rw [c_40_1]; decide) (by rw [c_40_1]; rfl) (by decide) ?_
        refine lv_aload_n hx hb dX12_measure_90 rfl (lv_at hl 0 rfl) ?_
        refine q_get hC hW kX12_41 0 (Mg0 cc ad S) (v := .ref (ad 11)) rfl dX12_measure_91 ?_
        refine lv_bipush (v := 8) hx hb dX12_measure_94 (by decide) ?_
        refine lv_iload_n hx hb dX12_measure_96 rfl (lv_at hl 1 rfl) ?_
        refine lv_imul hx hb dX12_measure_97 ?_
        refine q_ri (v := nI (8 * j)) (nq_mul (a := 8) (b := j) rfl rfl) ?_
        refine lv_iconst (v := 0) hx hb dX12_measure_98 (by decide) ?_
        refine lv_iadd hx hb dX12_measure_99 ?_
        refine q_ri (v := nI (8 * j)) ((nq_add (a := (8 * j)) (b := 0) rfl rfl).trans (congrArg nI (by omega))) ?_
        refine q_lald hC hW 11 (Mg11 cc ad S) (v := (S.2 11 (8 * j))) (8 * j) rfl (by omega) (by decide) rfl dX12_measure_100 ?_
        exact hend _ _ _ _ _ _ (by simp only [sX12_measure, if_neg c_17, if_pos c_22, if_neg c_40_0, if_pos c_40_1]) rfl hW dX12_measure_101
      by_cases c_40_2 : y = 2
      · skip
        refine lv_tableIn (tgt := 102) (off := 62) hx hb dX12_measure_40 (by rw [c_40_2]; decide) (by rw [c_40_2]; decide) (by rw [c_40_2]; rfl) (by decide) ?_
        refine lv_aload_n hx hb dX12_measure_102 rfl (lv_at hl 0 rfl) ?_
        refine lv_iload_n hx hb dX12_measure_103 rfl (lv_at hl 1 rfl) ?_
        refine q_VL hC hW (c_X12_length l D cc ad S j (by omega)) mX12_131 0 (Mg0 cc ad S) rfl (by decide) rfl hl.1 rfl (Nat.le_of_ble_eq_true rfl) (by decide) dX12_measure_104 (fun H locs hW => ?_)
        exact hend _ _ _ _ _ _ (by simp only [sX12_measure, if_neg c_17, if_pos c_22, if_neg c_40_0, if_neg c_40_1, if_pos c_40_2]) rfl hW dX12_measure_107
      by_cases c_40_3 : y = 3
      · skip
        refine lv_tableIn (tgt := 108) (off := 68) hx hb dX12_measure_40 (by rw [c_40_3]; decide) (by rw [c_40_3]; decide) (by rw [c_40_3]; rfl) (by decide) ?_
        refine lv_aload_n hx hb dX12_measure_108 rfl (lv_at hl 0 rfl) ?_
        refine q_get hC hW kX12_41 0 (Mg0 cc ad S) (v := .ref (ad 11)) rfl dX12_measure_109 ?_
        refine lv_bipush (v := 8) hx hb dX12_measure_112 (by decide) ?_
        refine lv_iload_n hx hb dX12_measure_114 rfl (lv_at hl 1 rfl) ?_
        refine lv_imul hx hb dX12_measure_115 ?_
        refine q_ri (v := nI (8 * j)) (nq_mul (a := 8) (b := j) rfl rfl) ?_
        refine lv_bipush (v := 6) hx hb dX12_measure_116 (by decide) ?_
        refine lv_iadd hx hb dX12_measure_118 ?_
        refine q_ri (v := nI (8 * j + 6)) ((nq_add (a := (8 * j)) (b := 6) rfl rfl).trans (congrArg nI (by omega))) ?_
        refine q_lald hC hW 11 (Mg11 cc ad S) (v := (S.2 11 (8 * j + 6))) (8 * j + 6) rfl (by omega) (by decide) rfl dX12_measure_119 ?_
        exact hend _ _ _ _ _ _ (by simp only [sX12_measure, if_neg c_17, if_pos c_22, if_neg c_40_0, if_neg c_40_1, if_neg c_40_2, if_pos c_40_3]) rfl hW dX12_measure_120
      by_cases c_40_4 : y = 4
      · skip
        refine lv_tableIn (tgt := 121) (off := 81) hx hb dX12_measure_40 (by rw [c_40_4]; decide) (by rw [c_40_4]; decide) (by rw [c_40_4]; rfl) (by decide) ?_
        refine lv_aload_n hx hb dX12_measure_121 rfl (lv_at hl 0 rfl) ?_
        refine q_get hC hW kX12_41 0 (Mg0 cc ad S) (v := .ref (ad 11)) rfl dX12_measure_122 ?_
        refine lv_bipush (v := 8) hx hb dX12_measure_125 (by decide) ?_
        refine lv_iload_n hx hb dX12_measure_127 rfl (lv_at hl 1 rfl) ?_
        refine lv_imul hx hb dX12_measure_128 ?_
        refine q_ri (v := nI (8 * j)) (nq_mul (a := 8) (b := j) rfl rfl) ?_
        refine lv_iconst (v := 5) hx hb dX12_measure_129 (by decide) ?_
        refine lv_iadd hx hb dX12_measure_130 ?_
        refine q_ri (v := nI (8 * j + 5)) ((nq_add (a := (8 * j)) (b := 5) rfl rfl).trans (congrArg nI (by omega))) ?_
        refine q_lald hC hW 11 (Mg11 cc ad S) (v := (S.2 11 (8 * j + 5))) (8 * j + 5) rfl (by omega) (by decide) rfl dX12_measure_131 ?_
        exact hend _ _ _ _ _ _ (by simp only [sX12_measure, if_neg c_17, if_pos c_22, if_neg c_40_0, if_neg c_40_1, if_neg c_40_2, if_neg c_40_3, if_pos c_40_4]) rfl hW dX12_measure_132
      by_cases c_40_5 : y = 5
      · skip
        refine lv_tableIn (tgt := 133) (off := 93) hx hb dX12_measure_40 (by rw [c_40_5]; decide) (by rw [c_40_5]; decide) (by rw [c_40_5]; rfl) (by decide) ?_
        refine lv_aload_n hx hb dX12_measure_133 rfl (lv_at hl 0 rfl) ?_
        refine lv_iload_n hx hb dX12_measure_134 rfl (lv_at hl 1 rfl) ?_
        refine q_VI hC hW (c_X12_marksIn l D cc ad S j (mM S) hI.2.2.1 (by omega) (by omega)) mX12_199 0 (Mg0 cc ad S) rfl (by decide) rfl hl.1 rfl (Nat.le_of_ble_eq_true rfl) (by decide) dX12_measure_135 (fun H locs hW => ?_)
        refine lv_i2l hx hb dX12_measure_138 rfl ?_
        exact hend _ _ _ _ _ _ (by simp only [sX12_measure, if_neg c_17, if_pos c_22, if_neg c_40_0, if_neg c_40_1, if_neg c_40_2, if_neg c_40_3, if_neg c_40_4, if_pos c_40_5]) rfl hW dX12_measure_139
      by_cases c_40_6 : y = 6
      · skip
        refine lv_tableIn (tgt := 140) (off := 100) hx hb dX12_measure_40 (by rw [c_40_6]; decide) (by rw [c_40_6]; decide) (by rw [c_40_6]; rfl) (by decide) ?_
        refine lv_aload_n hx hb dX12_measure_140 rfl (lv_at hl 0 rfl) ?_
        refine q_get hC hW kX12_41 0 (Mg0 cc ad S) (v := .ref (ad 11)) rfl dX12_measure_141 ?_
        refine lv_bipush (v := 8) hx hb dX12_measure_144 (by decide) ?_
        refine lv_iload_n hx hb dX12_measure_146 rfl (lv_at hl 1 rfl) ?_
        refine lv_imul hx hb dX12_measure_147 ?_
        refine q_ri (v := nI (8 * j)) (nq_mul (a := 8) (b := j) rfl rfl) ?_
        refine lv_iconst (v := 1) hx hb dX12_measure_148 (by decide) ?_
        refine lv_iadd hx hb dX12_measure_149 ?_
        refine q_ri (v := nI (8 * j + 1)) ((nq_add (a := (8 * j)) (b := 1) rfl rfl).trans (congrArg nI (by omega))) ?_
        refine q_lald hC hW 11 (Mg11 cc ad S) (v := (S.2 11 (8 * j + 1))) (8 * j + 1) rfl (by omega) (by decide) rfl dX12_measure_150 ?_
        exact hend _ _ _ _ _ _ (by simp only [sX12_measure, if_neg c_17, if_pos c_22, if_neg c_40_0, if_neg c_40_1, if_neg c_40_2, if_neg c_40_3, if_neg c_40_4, if_neg c_40_5, if_pos c_40_6]) rfl hW dX12_measure_151
      refine lv_tableOut (tgt := 152) hx hb dX12_measure_40 (sw_out 7 (by intro k hk; rcases (show k = 0 ∨ k = 1 ∨ k = 2 ∨ k = 3 ∨ k = 4 ∨ k = 5 ∨ k = 6 by omega) with rfl | rfl | rfl | rfl | rfl | rfl | rfl <;> assumption)) (by decide) ?_
      refine lv_aload_n hx hb dX12_measure_152 rfl (lv_at hl 0 rfl) ?_
      refine q_get hC hW kX12_41 0 (Mg0 cc ad S) (v := .ref (ad 11)) rfl dX12_measure_153 ?_
      refine lv_bipush (v := 8) hx hb dX12_measure_156 (by decide) ?_
      refine lv_iload_n hx hb dX12_measure_158 rfl (lv_at hl 1 rfl) ?_
      refine lv_imul hx hb dX12_measure_159 ?_
      refine q_ri (v := nI (8 * j)) (nq_mul (a := 8) (b := j) rfl rfl) ?_
      refine lv_iconst (v := 2) hx hb dX12_measure_160 (by decide) ?_
      refine lv_iadd hx hb dX12_measure_161 ?_
      refine q_ri (v := nI (8 * j + 2)) ((nq_add (a := (8 * j)) (b := 2) rfl rfl).trans (congrArg nI (by omega))) ?_
      refine q_lald hC hW 11 (Mg11 cc ad S) (v := (S.2 11 (8 * j + 2))) (8 * j + 2) rfl (by omega) (by decide) rfl dX12_measure_162 ?_
      exact hend _ _ _ _ _ _ (by simp only [sX12_measure, if_neg c_17, if_pos c_22, if_neg c_40_0, if_neg c_40_1, if_neg c_40_2, if_neg c_40_3, if_neg c_40_4, if_neg c_40_5, if_neg c_40_6]) rfl hW dX12_measure_163
    · skip
      refine lv_aload_n hx hb dX12_measure_25 rfl (lv_at hl 0 rfl) ?_
      refine q_get hC hW kX12_13 0 (Mg0 cc ad S) (v := .ref (ad 2)) rfl dX12_measure_26 ?_
      refine lv_iload_n hx hb dX12_measure_29 rfl (lv_at hl 1 rfl) ?_
      refine q_iald hC hW 2 (Mg2 cc ad S) (v := (S.1 1 j)) j rfl (by omega) (by decide) rfl dX12_measure_30 ?_
      refine lv_iconst (v := 1) hx hb dX12_measure_31 (by decide) ?_
      refine lv_icmp_eq (tgt := 39) hx hb dX12_measure_32 (by decide) (fun c_32 => ?_) (fun c_32 => ?_)
      · skip
        refine lv_iload_n hx hb dX12_measure_39 rfl (lv_at hl 2 rfl) ?_
        by_cases c_40_0 : y = 0
        · skip
          refine lv_tableIn (tgt := 84) (off := 44) hx hb dX12_measure_40 (by rw [c_40_0]; decide) (by rw [c_40_0]; decide) (by rw [c_40_0]; rfl) (by decide) ?_
          refine lv_aload_n hx hb dX12_measure_84 rfl (lv_at hl 0 rfl) ?_
          refine lv_iload_n hx hb dX12_measure_85 rfl (lv_at hl 1 rfl) ?_
          refine q_VL hC hW (c_X12_tension l D cc ad S j (by omega) hu) mX12_186 0 (Mg0 cc ad S) rfl (by decide) rfl hl.1 rfl (Nat.le_of_ble_eq_true rfl) (by decide) dX12_measure_86 (fun H locs hW => ?_)
          exact hend _ _ _ _ _ _ (by simp only [sX12_measure, if_neg c_17, if_neg c_22, if_pos c_32, if_pos c_40_0]) rfl hW dX12_measure_89
        by_cases c_40_1 : y = 1
        · skip
          refine lv_tableIn (tgt := 90) (off := 50) hx hb dX12_measure_40 (by rw [c_40_1]; decide) (by rw [c_40_1]; decide) (by rw [c_40_1]; rfl) (by decide) ?_
          refine lv_aload_n hx hb dX12_measure_90 rfl (lv_at hl 0 rfl) ?_
          refine q_get hC hW kX12_41 0 (Mg0 cc ad S) (v := .ref (ad 11)) rfl dX12_measure_91 ?_
          refine lv_bipush (v := 8) hx hb dX12_measure_94 (by decide) ?_
          refine lv_iload_n hx hb dX12_measure_96 rfl (lv_at hl 1 rfl) ?_
          refine lv_imul hx hb dX12_measure_97 ?_
          refine q_ri (v := nI (8 * j)) (nq_mul (a := 8) (b := j) rfl rfl) ?_
          refine lv_iconst (v := 0) hx hb dX12_measure_98 (by decide) ?_
          refine lv_iadd hx hb dX12_measure_99 ?_
          refine q_ri (v := nI (8 * j)) ((nq_add (a := (8 * j)) (b := 0) rfl rfl).trans (congrArg nI (by omega))) ?_
          refine q_lald hC hW 11 (Mg11 cc ad S) (v := (S.2 11 (8 * j))) (8 * j) rfl (by omega) (by decide) rfl dX12_measure_100 ?_
          exact hend _ _ _ _ _ _ (by simp only [sX12_measure, if_neg c_17, if_neg c_22, if_pos c_32, if_neg c_40_0, if_pos c_40_1]) rfl hW dX12_measure_101
        by_cases c_40_2 : y = 2
        · skip
          refine lv_tableIn (tgt := 102) (off := 62) hx hb dX12_measure_40 (by rw [c_40_2]; decide) (by rw [c_40_2]; decide) (by rw [c_40_2]; rfl) (by decide) ?_
          refine lv_aload_n hx hb dX12_measure_102 rfl (lv_at hl 0 rfl) ?_
          refine lv_iload_n hx hb dX12_measure_103 rfl (lv_at hl 1 rfl) ?_
          refine q_VL hC hW (c_X12_length l D cc ad S j (by omega)) mX12_131 0 (Mg0 cc ad S) rfl (by decide) rfl hl.1 rfl (Nat.le_of_ble_eq_true rfl) (by decide) dX12_measure_104 (fun H locs hW => ?_)
          exact hend _ _ _ _ _ _ (by simp only [sX12_measure, if_neg c_17, if_neg c_22, if_pos c_32, if_neg c_40_0, if_neg c_40_1, if_pos c_40_2]) rfl hW dX12_measure_107
        by_cases c_40_3 : y = 3
        · skip
          refine lv_tableIn (tgt := 108) (off := 68) hx hb dX12_measure_40 (by rw [c_40_3]; decide) (by rw [c_40_3]; decide) (by rw [c_40_3]; rfl) (by decide) ?_
          refine lv_aload_n hx hb dX12_measure_108 rfl (lv_at hl 0 rfl) ?_
          refine q_get hC hW kX12_41 0 (Mg0 cc ad S) (v := .ref (ad 11)) rfl dX12_measure_109 ?_
          refine lv_bipush (v := 8) hx hb dX12_measure_112 (by decide) ?_
          refine lv_iload_n hx hb dX12_measure_114 rfl (lv_at hl 1 rfl) ?_
          refine lv_imul hx hb dX12_measure_115 ?_
          refine q_ri (v := nI (8 * j)) (nq_mul (a := 8) (b := j) rfl rfl) ?_
          refine lv_bipush (v := 6) hx hb dX12_measure_116 (by decide) ?_
          refine lv_iadd hx hb dX12_measure_118 ?_
          refine q_ri (v := nI (8 * j + 6)) ((nq_add (a := (8 * j)) (b := 6) rfl rfl).trans (congrArg nI (by omega))) ?_
          refine q_lald hC hW 11 (Mg11 cc ad S) (v := (S.2 11 (8 * j + 6))) (8 * j + 6) rfl (by omega) (by decide) rfl dX12_measure_119 ?_
          exact hend _ _ _ _ _ _ (by simp only [sX12_measure, if_neg c_17, if_neg c_22, if_pos c_32, if_neg c_40_0, if_neg c_40_1, if_neg c_40_2, if_pos c_40_3]) rfl hW dX12_measure_120
        by_cases c_40_4 : y = 4
        · skip
          refine lv_tableIn (tgt := 121) (off := 81) hx hb dX12_measure_40 (by rw [c_40_4]; decide) (by rw [c_40_4]; decide) (by rw [c_40_4]; rfl) (by decide) ?_
          refine lv_aload_n hx hb dX12_measure_121 rfl (lv_at hl 0 rfl) ?_
          refine q_get hC hW kX12_41 0 (Mg0 cc ad S) (v := .ref (ad 11)) rfl dX12_measure_122 ?_
          refine lv_bipush (v := 8) hx hb dX12_measure_125 (by decide) ?_
          refine lv_iload_n hx hb dX12_measure_127 rfl (lv_at hl 1 rfl) ?_
          refine lv_imul hx hb dX12_measure_128 ?_
          refine q_ri (v := nI (8 * j)) (nq_mul (a := 8) (b := j) rfl rfl) ?_
          refine lv_iconst (v := 5) hx hb dX12_measure_129 (by decide) ?_
          refine lv_iadd hx hb dX12_measure_130 ?_
          refine q_ri (v := nI (8 * j + 5)) ((nq_add (a := (8 * j)) (b := 5) rfl rfl).trans (congrArg nI (by omega))) ?_
          refine q_lald hC hW 11 (Mg11 cc ad S) (v := (S.2 11 (8 * j + 5))) (8 * j + 5) rfl (by omega) (by decide) rfl dX12_measure_131 ?_
          exact hend _ _ _ _ _ _ (by simp only [sX12_measure, if_neg c_17, if_neg c_22, if_pos c_32, if_neg c_40_0, if_neg c_40_1, if_neg c_40_2, if_neg c_40_3, if_pos c_40_4]) rfl hW dX12_measure_132
        by_cases c_40_5 : y = 5
        · skip
          refine lv_tableIn (tgt := 133) (off := 93) hx hb dX12_measure_40 (by rw [c_40_5]; decide) (by rw [c_40_5]; decide) (by rw [c_40_5]; rfl) (by decide) ?_
          refine lv_aload_n hx hb dX12_measure_133 rfl (lv_at hl 0 rfl) ?_
          refine lv_iload_n hx hb dX12_measure_134 rfl (lv_at hl 1 rfl) ?_
          refine q_VI hC hW (c_X12_marksIn l D cc ad S j (mM S) hI.2.2.1 (by omega) (by omega)) mX12_199 0 (Mg0 cc ad S) rfl (by decide) rfl hl.1 rfl (Nat.le_of_ble_eq_true rfl) (by decide) dX12_measure_135 (fun H locs hW => ?_)
          refine lv_i2l hx hb dX12_measure_138 rfl ?_
          exact hend _ _ _ _ _ _ (by simp only [sX12_measure, if_neg c_17, if_neg c_22, if_pos c_32, if_neg c_40_0, if_neg c_40_1, if_neg c_40_2, if_neg c_40_3, if_neg c_40_4, if_pos c_40_5]) rfl hW dX12_measure_139
        by_cases c_40_6 : y = 6
        · skip
          refine lv_tableIn (tgt := 140) (off := 100) hx hb dX12_measure_40 (by rw [c_40_6]; decide) (by rw [c_40_6]; decide) (by rw [c_40_6]; rfl) (by decide) ?_
          refine lv_aload_n hx hb dX12_measure_140 rfl (lv_at hl 0 rfl) ?_
          refine q_get hC hW kX12_41 0 (Mg0 cc ad S) (v := .ref (ad 11)) rfl dX12_measure_141 ?_
          refine lv_bipush (v := 8) hx hb dX12_measure_144 (by decide) ?_
          refine lv_iload_n hx hb dX12_measure_146 rfl (lv_at hl 1 rfl) ?_
          refine lv_imul hx hb dX12_measure_147 ?_
          refine q_ri (v := nI (8 * j)) (nq_mul (a := 8) (b := j) rfl rfl) ?_
          refine lv_iconst (v := 1) hx hb dX12_measure_148 (by decide) ?_
          refine lv_iadd hx hb dX12_measure_149 ?_
          refine q_ri (v := nI (8 * j + 1)) ((nq_add (a := (8 * j)) (b := 1) rfl rfl).trans (congrArg nI (by omega))) ?_
          refine q_lald hC hW 11 (Mg11 cc ad S) (v := (S.2 11 (8 * j + 1))) (8 * j + 1) rfl (by omega) (by decide) rfl dX12_measure_150 ?_
          exact hend _ _ _ _ _ _ (by simp only [sX12_measure, if_neg c_17, if_neg c_22, if_pos c_32, if_neg c_40_0, if_neg c_40_1, if_neg c_40_2, if_neg c_40_3, if_neg c_40_4, if_neg c_40_5, if_pos c_40_6]) rfl hW dX12_measure_151
        refine lv_tableOut (tgt := 152) hx hb dX12_measure_40 (sw_out 7 (by intro k hk; rcases (show k = 0 ∨ k = 1 ∨ k = 2 ∨ k = 3 ∨ k = 4 ∨ k = 5 ∨ k = 6 by omega) with rfl | rfl | rfl | rfl | rfl | rfl | rfl <;> assumption)) (by decide) ?_
        refine lv_aload_n hx hb dX12_measure_152 rfl (lv_at hl 0 rfl) ?_
        refine q_get hC hW kX12_41 0 (Mg0 cc ad S) (v := .ref (ad 11)) rfl dX12_measure_153 ?_
        refine lv_bipush (v := 8) hx hb dX12_measure_156 (by decide) ?_
        refine lv_iload_n hx hb dX12_measure_158 rfl (lv_at hl 1 rfl) ?_
        refine lv_imul hx hb dX12_measure_159 ?_
        refine q_ri (v := nI (8 * j)) (nq_mul (a := 8) (b := j) rfl rfl) ?_
        refine lv_iconst (v := 2) hx hb dX12_measure_160 (by decide) ?_
        refine lv_iadd hx hb dX12_measure_161 ?_
        refine q_ri (v := nI (8 * j + 2)) ((nq_add (a := (8 * j)) (b := 2) rfl rfl).trans (congrArg nI (by omega))) ?_
        refine q_lald hC hW 11 (Mg11 cc ad S) (v := (S.2 11 (8 * j + 2))) (8 * j + 2) rfl (by omega) (by decide) rfl dX12_measure_162 ?_
        exact hend _ _ _ _ _ _ (by simp only [sX12_measure, if_neg c_17, if_neg c_22, if_pos c_32, if_neg c_40_0, if_neg c_40_1, if_neg c_40_2, if_neg c_40_3, if_neg c_40_4, if_neg c_40_5, if_neg c_40_6]) rfl hW dX12_measure_163
      · skip
        refine q_SL hC hW (c_X12_lost l D cc _) mX12_232 (by decide) rfl hl.1 rfl (Nat.le_of_ble_eq_true rfl) (by decide) dX12_measure_35 (fun H locs hW => ?_)
        exact hend _ _ _ _ _ _ (by simp only [sX12_measure, if_neg c_17, if_neg c_22, if_neg c_32]) rfl hW dX12_measure_38
def sX12_measure_no (S : St) (x : Int32) (y : Int32) : Int64 := sX12_lost
set_option maxHeartbeats 4000000 in
set_option maxRecDepth 100000 in
theorem c_X12_measure_no (l : Launch) (D : va_G) (cc : Nat → ClassId) (ad : Nat → Nat) (S : St) (x : Int32) (y : Int32) (hno : sX12_noSpan S x = 1) : CtL l D cc yX12_measure cX12_measure 3 3 [.ref (ad 0), .int x, .int y] (MW cc ad S) (sX12_measure_no S x y) (MW cc ad S) := by
  refine CtL.of (plainFor_of_name (by decide +kernel)) (Nat.le_of_ble_eq_true rfl) ?_
  intro p e s m args below meth c A Q hC hW hend ls hl
  obtain ⟨⟨hx, hb, hml, hown, hts⟩, hNW⟩ := id hC
  have hl : lv_has ls 3 [(0, .ref (ad 0)), (1, .int x), (2, .int y)] := hl
  refine lv_aload_n hx hb dX12_measure_0 rfl (lv_at hl 0 rfl) ?_
  refine lv_iload_n hx hb dX12_measure_1 rfl (lv_at hl 1 rfl) ?_
  refine q_VI hC hW (c_X12_noSpan l D cc ad S x) mX12_135 0 (Mg0 cc ad S) rfl (by decide) rfl hl.1 rfl (Nat.le_of_ble_eq_true rfl) (by decide) dX12_measure_2 (fun H locs hW => ?_)
  refine q_ri (v := nI 1) hno ?_
  refine q_if_ne_n (tgt := 35) hx hb (a := 1) rfl (by omega) dX12_measure_5 (by decide) (fun c_5 => ?_) (fun c_5 => by exfalso; omega)
  refine q_SL hC hW (c_X12_lost l D cc _) mX12_232 (by decide) rfl hl.1 rfl (Nat.le_of_ble_eq_true rfl) (by decide) dX12_measure_35 (fun H locs hW => ?_)
  exact hend _ _ _ _ _ _ (by unfold sX12_measure_no; rfl) rfl hW dX12_measure_38
def sX12_roller (S : St) (r : Nat) (y : Int32) : Int64 := (if (sX12_in (y.toInt64) 0 3) = 0 then sX12_lost else (if y = 1 then (sX12_speed S r) else (if r = 0 then (if y = 0 then (S.2 11 61) else 0) else (if y = 0 then (S.2 11 (((8 * r) - 8) + 4)) else (if y = 2 then (S.2 10 (r - 1)) else (S.2 11 (((8 * r) - 8) + 3)))))))
set_option maxHeartbeats 4000000 in
set_option maxRecDepth 100000 in
theorem c_X12_roller (l : Launch) (D : va_G) (cc : Nat → ClassId) (ad : Nat → Nat) (S : St) (r : Nat) (y : Int32) (hI : InvM S) (hr : r ≤ cN S) : CtL l D cc yX12_roller cX12_roller 3 3 [.ref (ad 0), .int (nI r), .int y] (MW cc ad S) (sX12_roller S r y) (MW cc ad S) := by
  refine CtL.of (plainFor_of_name (by decide +kernel)) (Nat.le_of_ble_eq_true rfl) ?_
  intro p e s m args below meth c A Q hC hW hend ls hl
  obtain ⟨⟨hx, hb, hml, hown, hts⟩, hNW⟩ := id hC
  have hl : lv_has ls 3 [(0, .ref (ad 0)), (1, .int (nI r)), (2, .int y)] := hl
  obtain ⟨⟨-, hn1_hI, hn2_hI⟩, ⟨-, hq_hI⟩, -, ⟨-, hh_hI⟩, hs_hI⟩ := id hI
  refine lv_iload_n hx hb dX12_roller_0 rfl (lv_at hl 1 rfl) ?_
  refine lv_i2l (v := lN r) hx hb dX12_roller_1 (nI_l (by omega)) ?_
  refine lv_lconst (v := 0) hx hb dX12_roller_2 rfl ?_
  refine lv_aload_n hx hb dX12_roller_3 rfl (lv_at hl 0 rfl) ?_
  refine q_get hC hW kX12_69 0 (Mg0 cc ad S) (v := .int (nI (cN S))) (congrArg (fun z => some (Value.int z)) hI.1.1) dX12_roller_4 ?_
  refine lv_i2l (v := lN (cN S)) hx hb dX12_roller_7 (nI_l (by omega)) ?_
  refine q_SI hC hW (c_X12_in l D cc _ (lN r) 0 (lN (cN S))) mX12_118 (by decide) rfl hl.1 rfl (Nat.le_of_ble_eq_true rfl) (by decide) dX12_roller_8 (fun H locs hW => ?_)
  refine q_ri (v := nI 1) (in_nat (b := 0) (by omega) hr (by omega)) ?_
  refine q_if_eq_n (tgt := 26) hx hb (a := 1) rfl (by omega) dX12_roller_11 (by decide) (fun c_11 => by exfalso; omega) (fun c_11 => ?_)
  refine lv_iload_n hx hb dX12_roller_14 rfl (lv_at hl 2 rfl) ?_
  refine lv_i2l hx hb dX12_roller_15 rfl ?_
  refine lv_lconst (v := 0) hx hb dX12_roller_16 rfl ?_
  refine q_ldc2 hC nX12_236 dX12_roller_17 ?_
  refine q_SI hC hW (c_X12_in l D cc _ (y.toInt64) 0 3) mX12_118 (by decide) rfl hl.1 rfl (Nat.le_of_ble_eq_true rfl) (by decide) dX12_roller_20 (fun H locs hW => ?_)
  refine lv_if_ne (tgt := 30) hx hb dX12_roller_23 (by decide) (fun c_23 => ?_) (fun c_23 => ?_)
  · skip
    refine lv_iload_n hx hb dX12_roller_30 rfl (lv_at hl 2 rfl) ?_
    refine lv_iconst (v := 1) hx hb dX12_roller_31 (by decide) ?_
    refine lv_icmp_ne (tgt := 41) hx hb dX12_roller_32 (by decide) (fun c_32 => ?_) (fun c_32 => ?_)
    · skip
      refine lv_iload_n hx hb dX12_roller_41 rfl (lv_at hl 1 rfl) ?_
      refine q_if_ne_n (tgt := 61) hx hb (a := r) rfl (by omega) dX12_roller_42 (by decide) (fun c_42 => ?_) (fun c_42 => ?_)
      · skip
        refine lv_iload_n hx hb dX12_roller_61 rfl (lv_at hl 2 rfl) ?_
        refine lv_if_ne (tgt := 82) hx hb dX12_roller_62 (by decide) (fun c_62 => ?_) (fun c_62 => ?_)
        · skip
          refine lv_iload_n hx hb dX12_roller_82 rfl (lv_at hl 2 rfl) ?_
          refine lv_iconst (v := 2) hx hb dX12_roller_83 (by decide) ?_
          refine lv_icmp_ne (tgt := 98) hx hb dX12_roller_84 (by decide) (fun c_84 => ?_) (fun c_84 => ?_)
          · skip
            refine lv_aload_n hx hb dX12_roller_98 rfl (lv_at hl 0 rfl) ?_
            refine q_get hC hW kX12_41 0 (Mg0 cc ad S) (v := .ref (ad 11)) rfl dX12_roller_99 ?_
            refine lv_bipush (v := 8) hx hb dX12_roller_102 (by decide) ?_
            refine lv_iload_n hx hb dX12_roller_104 rfl (lv_at hl 1 rfl) ?_
            refine lv_imul hx hb dX12_roller_105 ?_
            refine q_ri (v := nI (8 * r)) (nq_mul (a := 8) (b := r) rfl rfl) ?_
            refine lv_bipush (v := 8) hx hb dX12_roller_106 (by decide) ?_
            refine lv_isub hx hb dX12_roller_108 ?_
            refine q_ri (v := nI ((8 * r) - 8)) (nq_sub (a := (8 * r)) (b := 8) rfl rfl (by omega)) ?_
            refine lv_iconst (v := 3) hx hb dX12_roller_109 (by decide) ?_
            refine lv_iadd hx hb dX12_roller_110 ?_
            refine q_ri (v := nI (((8 * r) - 8) + 3)) (nq_add (a := ((8 * r) - 8)) (b := 3) rfl rfl) ?_
            refine q_lald hC hW 11 (Mg11 cc ad S) (v := (S.2 11 (((8 * r) - 8) + 3))) (((8 * r) - 8) + 3) rfl (by omega) (by decide) rfl dX12_roller_111 ?_
            exact hend _ _ _ _ _ _ (by simp only [sX12_roller, if_neg c_23, if_neg c_32, if_neg c_42, if_neg c_62, if_neg c_84]) rfl hW dX12_roller_112
          · skip
            refine lv_aload_n hx hb dX12_roller_87 rfl (lv_at hl 0 rfl) ?_
            refine q_get hC hW kX12_38 0 (Mg0 cc ad S) (v := .ref (ad 10)) rfl dX12_roller_88 ?_
            refine lv_iload_n hx hb dX12_roller_91 rfl (lv_at hl 1 rfl) ?_
            refine lv_iconst (v := 1) hx hb dX12_roller_92 (by decide) ?_
            refine lv_isub hx hb dX12_roller_93 ?_
            refine q_ri (v := nI (r - 1)) (nq_sub (a := r) (b := 1) rfl rfl (by omega)) ?_
            refine q_lald hC hW 10 (Mg10 cc ad S) (v := (S.2 10 (r - 1))) (r - 1) rfl (by omega) (by decide) rfl dX12_roller_94 ?_
            refine lv_goto (tgt := 112) hx hb dX12_roller_95 (by decide) ?_
            exact hend _ _ _ _ _ _ (by simp only [sX12_roller, if_neg c_23, if_neg c_32, if_neg c_42, if_neg c_62, if_pos c_84]) rfl hW dX12_roller_112
        · skip
          refine lv_aload_n hx hb dX12_roller_65 rfl (lv_at hl 0 rfl) ?_
          refine q_get hC hW kX12_41 0 (Mg0 cc ad S) (v := .ref (ad 11)) rfl dX12_roller_66 ?_
          refine lv_bipush (v := 8) hx hb dX12_roller_69 (by decide) ?_
          refine lv_iload_n hx hb dX12_roller_71 rfl (lv_at hl 1 rfl) ?_
          refine lv_imul hx hb dX12_roller_72 ?_
          refine q_ri (v := nI (8 * r)) (nq_mul (a := 8) (b := r) rfl rfl) ?_
          refine lv_bipush (v := 8) hx hb dX12_roller_73 (by decide) ?_
          refine lv_isub hx hb dX12_roller_75 ?_
          refine q_ri (v := nI ((8 * r) - 8)) (nq_sub (a := (8 * r)) (b := 8) rfl rfl (by omega)) ?_
          refine lv_iconst (v := 4) hx hb dX12_roller_76 (by decide) ?_
          refine lv_iadd hx hb dX12_roller_77 ?_
          refine q_ri (v := nI (((8 * r) - 8) + 4)) (nq_add (a := ((8 * r) - 8)) (b := 4) rfl rfl) ?_
          refine q_lald hC hW 11 (Mg11 cc ad S) (v := (S.2 11 (((8 * r) - 8) + 4))) (((8 * r) - 8) + 4) rfl (by omega) (by decide) rfl dX12_roller_78 ?_
          refine lv_goto (tgt := 112) hx hb dX12_roller_79 (by decide) ?_
          exact hend _ _ _ _ _ _ (by simp only [sX12_roller, if_neg c_23, if_neg c_32, if_neg c_42, if_pos c_62]) rfl hW dX12_roller_112
      · skip
        refine lv_iload_n hx hb dX12_roller_45 rfl (lv_at hl 2 rfl) ?_
        refine lv_if_ne (tgt := 59) hx hb dX12_roller_46 (by decide) (fun c_46 => ?_) (fun c_46 => ?_)
        · skip
          refine lv_lconst (v := 0) hx hb dX12_roller_59 rfl ?_
          exact hend _ _ _ _ _ _ (by simp only [sX12_roller, if_neg c_23, if_neg c_32, if_pos c_42, if_neg c_46]) rfl hW dX12_roller_60
        · skip
          refine lv_aload_n hx hb dX12_roller_49 rfl (lv_at hl 0 rfl) ?_
          refine q_get hC hW kX12_41 0 (Mg0 cc ad S) (v := .ref (ad 11)) rfl dX12_roller_50 ?_
          refine lv_bipush (v := 61) hx hb dX12_roller_53 (by decide) ?_
          refine q_lald hC hW 11 (Mg11 cc ad S) (v := (S.2 11 61)) 61 rfl (by omega) (by decide) rfl dX12_roller_55 ?_
          refine lv_goto (tgt := 60) hx hb dX12_roller_56 (by decide) ?_
          exact hend _ _ _ _ _ _ (by simp only [sX12_roller, if_neg c_23, if_neg c_32, if_pos c_42, if_pos c_46]) rfl hW dX12_roller_60
    · skip
      refine lv_aload_n hx hb dX12_roller_35 rfl (lv_at hl 0 rfl) ?_
      refine lv_iload_n hx hb dX12_roller_36 rfl (lv_at hl 1 rfl) ?_
      refine q_VL hC hW (c_X12_speed l D cc ad S r (by omega)) mX12_180 0 (Mg0 cc ad S) rfl (by decide) rfl hl.1 rfl (Nat.le_of_ble_eq_true rfl) (by decide) dX12_roller_37 (fun H locs hW => ?_)
      exact hend _ _ _ _ _ _ (by simp only [sX12_roller, if_neg c_23, if_pos c_32]) rfl hW dX12_roller_40
  · skip
    refine q_SL hC hW (c_X12_lost l D cc _) mX12_232 (by decide) rfl hl.1 rfl (Nat.le_of_ble_eq_true rfl) (by decide) dX12_roller_26 (fun H locs hW => ?_)
    exact hend _ _ _ _ _ _ (by simp only [sX12_roller, if_pos c_23]) rfl hW dX12_roller_29
def sX12_roller_no (S : St) (x : Int32) (y : Int32) : Int64 := sX12_lost
set_option maxHeartbeats 4000000 in
set_option maxRecDepth 100000 in
theorem c_X12_roller_no (l : Launch) (D : va_G) (cc : Nat → ClassId) (ad : Nat → Nat) (S : St) (x : Int32) (y : Int32) (hno : sX12_in x.toInt64 0 (S.1 0 0).toInt64 = 0) : CtL l D cc yX12_roller cX12_roller 3 3 [.ref (ad 0), .int x, .int y] (MW cc ad S) (sX12_roller_no S x y) (MW cc ad S) := by
  refine CtL.of (plainFor_of_name (by decide +kernel)) (Nat.le_of_ble_eq_true rfl) ?_
  intro p e s m args below meth c A Q hC hW hend ls hl
  obtain ⟨⟨hx, hb, hml, hown, hts⟩, hNW⟩ := id hC
  have hl : lv_has ls 3 [(0, .ref (ad 0)), (1, .int x), (2, .int y)] := hl
  refine lv_iload_n hx hb dX12_roller_0 rfl (lv_at hl 1 rfl) ?_
  refine lv_i2l hx hb dX12_roller_1 rfl ?_
  refine lv_lconst (v := 0) hx hb dX12_roller_2 rfl ?_
  refine lv_aload_n hx hb dX12_roller_3 rfl (lv_at hl 0 rfl) ?_
  refine q_get hC hW kX12_69 0 (Mg0 cc ad S) (v := .int (S.1 0 0)) rfl dX12_roller_4 ?_
  refine lv_i2l hx hb dX12_roller_7 rfl ?_
  refine q_SI hC hW (c_X12_in l D cc _ (x.toInt64) 0 ((S.1 0 0).toInt64)) mX12_118 (by decide) rfl hl.1 rfl (Nat.le_of_ble_eq_true rfl) (by decide) dX12_roller_8 (fun H locs hW => ?_)
  refine q_ri (v := nI 0) hno ?_
  refine q_if_eq_n (tgt := 26) hx hb (a := 0) rfl (by omega) dX12_roller_11 (by decide) (fun c_11 => ?_) (fun c_11 => by exfalso; omega)
  refine q_SL hC hW (c_X12_lost l D cc _) mX12_232 (by decide) rfl hl.1 rfl (Nat.le_of_ble_eq_true rfl) (by decide) dX12_roller_26 (fun H locs hW => ?_)
  exact hend _ _ _ _ _ _ (by unfold sX12_roller_no; rfl) rfl hW dX12_roller_29
def LX12_web_21_2 (S : St) (x : Int32) : Nat → Int64
  | 0 => 0
  | k + 1 => ((LX12_web_21_2 S x k) + (S.2 11 (53 + k)))
def sX12_web (S : St) (x : Int32) : Int64 := (if (sX12_in (x.toInt64) 0 2) = 0 then sX12_lost else (if x = 0 then (S.2 11 51) else (if x = 1 then (LX12_web_21_2 S x (mQ S)) else (S.2 11 57))))
set_option maxHeartbeats 4000000 in
set_option maxRecDepth 100000 in
theorem c_X12_web (l : Launch) (D : va_G) (cc : Nat → ClassId) (ad : Nat → Nat) (S : St) (x : Int32) (hI : InvM S) : CtL l D cc yX12_web cX12_web 5 1 [.ref (ad 0), .int x] (MW cc ad S) (sX12_web S x) (MW cc ad S) := by
  refine CtL.of (plainFor_of_name (by decide +kernel)) (Nat.le_of_ble_eq_true rfl) ?_
  intro p e s m args below meth c A Q hC hW hend ls hl
  obtain ⟨⟨hx, hb, hml, hown, hts⟩, hNW⟩ := id hC
  have hl : lv_has ls 5 [(0, .ref (ad 0)), (1, .int x)] := hl
  obtain ⟨⟨-, hn1_hI, hn2_hI⟩, ⟨-, hq_hI⟩, -, ⟨-, hh_hI⟩, hs_hI⟩ := id hI
  refine lv_iload_n hx hb dX12_web_0 rfl (lv_at hl 1 rfl) ?_
  refine lv_i2l hx hb dX12_web_1 rfl ?_
  refine lv_lconst (v := 0) hx hb dX12_web_2 rfl ?_
  refine q_ldc2 hC nX12_129 dX12_web_3 ?_
  refine q_SI hC hW (c_X12_in l D cc _ (x.toInt64) 0 2) mX12_118 (by decide) rfl hl.1 rfl (Nat.le_of_ble_eq_true rfl) (by decide) dX12_web_6 (fun H locs hW => ?_)
  refine lv_if_ne (tgt := 16) hx hb dX12_web_9 (by decide) (fun c_9 => ?_) (fun c_9 => ?_)
  · skip
    refine lv_lconst (v := 0) hx hb dX12_web_16 rfl ?_
    refine lv_lstore_n (lv' := [(2, .long 0), (0, .ref (ad 0)), (1, .int x)]) hx hb dX12_web_17 rfl hl (by decide) rfl (fun ls hl => ?_)
    refine lv_iconst (v := 0) hx hb dX12_web_18 (by decide) ?_
    refine lv_istore (lv' := [(4, .int 0), (2, .long 0), (0, .ref (ad 0)), (1, .int x)]) hx hb dX12_web_19 hl (by decide) rfl (fun ls hl => ?_)
    have loop1 : ∀ (rn k : Nat), k + rn = (mQ S) → ∀ (H : Heap) (locs : List Loc) (ls : Array Slot), Wd D cc (MW cc ad S) A s.heap H locs s → lv_has ls 5 [(0, .ref (ad 0)), (1, .int x), (2, .long (LX12_web_21_2 S x k)), (4, .int (nI k))] → W p l e (rmD 1) s m args below meth c H locs 0 0 Q (F0 m 21 ls []) := by
      intro rn
      induction rn with
      | zero =>
        intro k hk H locs ls hW hl
        obtain rfl : (mQ S) = k := by omega
        refine lv_iload hx hb dX12_web_21 (lv_at hl 3 rfl) ?_
        refine lv_i2l (v := lN (mQ S)) hx hb dX12_web_23 (nI_l (by omega)) ?_
        refine lv_aload_n hx hb dX12_web_24 rfl (lv_at hl 0 rfl) ?_
        refine q_get hC hW kX12_41 0 (Mg0 cc ad S) (v := .ref (ad 11)) rfl dX12_web_25 ?_
        refine lv_bipush (v := 52) hx hb dX12_web_28 (by decide) ?_
        refine q_lald hC hW 11 (Mg11 cc ad S) (v := (lN (mQ S))) 52 rfl (by omega) (by decide) hI.2.1.1 dX12_web_30 ?_
        refine q_jge_n (tgt := 54) hC (a := (mQ S)) (b2 := (mQ S)) rfl rfl (by omega) (by omega) dX12_web_31 dX12_web_32 (by decide) (fun c_31 => ?_) (fun c_31 => by exfalso; omega)
        refine lv_iload_n hx hb dX12_web_54 rfl (lv_at hl 1 rfl) ?_
        refine lv_if_ne (tgt := 68) hx hb dX12_web_55 (by decide) (fun c_55 => ?_) (fun c_55 => ?_)
        · skip
          refine lv_iload_n hx hb dX12_web_68 rfl (lv_at hl 1 rfl) ?_
          refine lv_iconst (v := 1) hx hb dX12_web_69 (by decide) ?_
          refine lv_icmp_ne (tgt := 77) hx hb dX12_web_70 (by decide) (fun c_70 => ?_) (fun c_70 => ?_)
          · skip
            refine lv_aload_n hx hb dX12_web_77 rfl (lv_at hl 0 rfl) ?_
            refine q_get hC hW kX12_41 0 (Mg0 cc ad S) (v := .ref (ad 11)) rfl dX12_web_78 ?_
            refine lv_bipush (v := 57) hx hb dX12_web_81 (by decide) ?_
            refine q_lald hC hW 11 (Mg11 cc ad S) (v := (S.2 11 57)) 57 rfl (by omega) (by decide) rfl dX12_web_83 ?_
            exact hend _ _ _ _ _ _ (by simp only [sX12_web, if_neg c_9, if_neg c_55, if_neg c_70]) rfl hW dX12_web_84
          · skip
            refine lv_lload_n hx hb dX12_web_73 rfl (lv_at hl 2 rfl) ?_
            refine lv_goto (tgt := 84) hx hb dX12_web_74 (by decide) ?_
            exact hend _ _ _ _ _ _ (by simp only [sX12_web, if_neg c_9, if_neg c_55, if_pos c_70]) rfl hW dX12_web_84
        · skip
          refine lv_aload_n hx hb dX12_web_58 rfl (lv_at hl 0 rfl) ?_
          refine q_get hC hW kX12_41 0 (Mg0 cc ad S) (v := .ref (ad 11)) rfl dX12_web_59 ?_
          refine lv_bipush (v := 51) hx hb dX12_web_62 (by decide) ?_
          refine q_lald hC hW 11 (Mg11 cc ad S) (v := (S.2 11 51)) 51 rfl (by omega) (by decide) rfl dX12_web_64 ?_
          refine lv_goto (tgt := 84) hx hb dX12_web_65 (by decide) ?_
          exact hend _ _ _ _ _ _ (by simp only [sX12_web, if_neg c_9, if_pos c_55]) rfl hW dX12_web_84
      | succ rn ih =>
        intro k hk H locs ls hW hl
        have hkN : k < (mQ S) := by omega
        refine lv_iload hx hb dX12_web_21 (lv_at hl 3 rfl) ?_
        refine lv_i2l (v := lN k) hx hb dX12_web_23 (nI_l (by omega)) ?_
        refine lv_aload_n hx hb dX12_web_24 rfl (lv_at hl 0 rfl) ?_
        refine q_get hC hW kX12_41 0 (Mg0 cc ad S) (v := .ref (ad 11)) rfl dX12_web_25 ?_
        refine lv_bipush (v := 52) hx hb dX12_web_28 (by decide) ?_
        refine q_lald hC hW 11 (Mg11 cc ad S) (v := (lN (mQ S))) 52 rfl (by omega) (by decide) hI.2.1.1 dX12_web_30 ?_
        refine q_jge_n (tgt := 54) hC (a := k) (b2 := (mQ S)) rfl rfl (by omega) (by omega) dX12_web_31 dX12_web_32 (by decide) (fun c_31 => by exfalso; omega) (fun c_31 => ?_)
        refine lv_lload_n hx hb dX12_web_35 rfl (lv_at hl 2 rfl) ?_
        refine lv_aload_n hx hb dX12_web_36 rfl (lv_at hl 0 rfl) ?_
        refine q_get hC hW kX12_41 0 (Mg0 cc ad S) (v := .ref (ad 11)) rfl dX12_web_37 ?_
        refine lv_bipush (v := 53) hx hb dX12_web_40 (by decide) ?_
        refine lv_iload hx hb dX12_web_42 (lv_at hl 3 rfl) ?_
        refine lv_iadd hx hb dX12_web_44 ?_
        refine q_ri (v := nI (53 + k)) (nq_add (a := 53) (b := k) rfl rfl) ?_
        refine q_lald hC hW 11 (Mg11 cc ad S) (v := (S.2 11 (53 + k))) (53 + k) rfl (by omega) (by decide) rfl dX12_web_45 ?_
        refine lv_ladd hx hb dX12_web_46 ?_
        refine lv_lstore_n (lv' := [(2, .long ((LX12_web_21_2 S x k) + (S.2 11 (53 + k)))), (0, .ref (ad 0)), (1, .int x), (4, .int (nI k))]) hx hb dX12_web_47 rfl hl (by decide) rfl (fun ls hl => ?_)
        refine lv_iinc (v := (nI (k + 1))) (lv' := [(4, .int (nI (k + 1))), (2, .long ((LX12_web_21_2 S x k) + (S.2 11 (53 + k)))), (0, .ref (ad 0)), (1, .int x)]) hx hb dX12_web_48 hl (k := 3) rfl (nq_inc k 1) (by decide) rfl (fun ls hl => ?_)
        refine lv_goto (tgt := 21) hx hb dX12_web_51 (by decide) ?_
        exact ih (k + 1) (by omega) _ _ _ hW (lv_sub hl [2, 3, 1, 0] (by simp only [LX12_web_21_2, if_neg c_9]; rfl))
    exact loop1 (mQ S) 0 (by omega) _ _ _ hW (lv_sub hl [2, 3, 1, 0] rfl)
  · skip
    refine q_SL hC hW (c_X12_lost l D cc _) mX12_232 (by decide) rfl hl.1 rfl (Nat.le_of_ble_eq_true rfl) (by decide) dX12_web_12 (fun H locs hW => ?_)
    exact hend _ _ _ _ _ _ (by simp only [sX12_web, if_pos c_9]) rfl hW dX12_web_15
def sX12_markDistance (S : St) (j : Nat) : Int64 := (((sX12_materialTo S (cN S)) - (S.2 11 61)) + (S.2 15 j))
set_option maxHeartbeats 4000000 in
set_option maxRecDepth 100000 in
theorem c_X12_markDistance (l : Launch) (D : va_G) (cc : Nat → ClassId) (ad : Nat → Nat) (S : St) (j : Nat) (hI : InvM S) (hj : j < mM S) : CtL l D cc yX12_markDistance cX12_markDistance 2 1 [.ref (ad 0), .int (nI j)] (MW cc ad S) (sX12_markDistance S j) (MW cc ad S) := by
  refine CtL.of (plainFor_of_name (by decide +kernel)) (Nat.le_of_ble_eq_true rfl) ?_
  intro p e s m args below meth c A Q hC hW hend ls hl
  obtain ⟨⟨hx, hb, hml, hown, hts⟩, hNW⟩ := id hC
  have hl : lv_has ls 2 [(0, .ref (ad 0)), (1, .int (nI j))] := hl
  obtain ⟨⟨-, hn1_hI, hn2_hI⟩, ⟨-, hq_hI⟩, -, ⟨-, hh_hI⟩, hs_hI⟩ := id hI
  refine lv_iload_n hx hb dX12_markDistance_0 rfl (lv_at hl 1 rfl) ?_
  refine lv_i2l (v := lN j) hx hb dX12_markDistance_1 (nI_l (by omega)) ?_
  refine lv_lconst (v := 0) hx hb dX12_markDistance_2 rfl ?_
  refine lv_aload_n hx hb dX12_markDistance_3 rfl (lv_at hl 0 rfl) ?_
  refine q_get hC hW kX12_41 0 (Mg0 cc ad S) (v := .ref (ad 11)) rfl dX12_markDistance_4 ?_
  refine lv_bipush (v := 62) hx hb dX12_markDistance_7 (by decide) ?_
  refine q_lald hC hW 11 (Mg11 cc ad S) (v := (lN (mM S))) 62 rfl (by omega) (by decide) hI.2.2.1 dX12_markDistance_9 ?_
  refine lv_lconst (v := 1) hx hb dX12_markDistance_10 rfl ?_
  refine lv_lsub hx hb dX12_markDistance_11 ?_
  refine q_rl (v := lN ((mM S) - 1)) (nq_subL (a := (mM S)) (b := 1) rfl rfl (by omega)) ?_
  refine q_SI hC hW (c_X12_in l D cc _ (lN j) 0 (lN ((mM S) - 1))) mX12_118 (by decide) rfl hl.1 rfl (Nat.le_of_ble_eq_true rfl) (by decide) dX12_markDistance_12 (fun H locs hW => ?_)
  refine q_ri (v := nI 1) (in_nat (b := 0) (by omega) (by omega) (by omega)) ?_
  refine q_if_eq_n (tgt := 44) hx hb (a := 1) rfl (by omega) dX12_markDistance_15 (by decide) (fun c_15 => by exfalso; omega) (fun c_15 => ?_)
  refine lv_aload_n hx hb dX12_markDistance_18 rfl (lv_at hl 0 rfl) ?_
  refine lv_aload_n hx hb dX12_markDistance_19 rfl (lv_at hl 0 rfl) ?_
  refine q_get hC hW kX12_69 0 (Mg0 cc ad S) (v := .int (nI (cN S))) (congrArg (fun z => some (Value.int z)) hI.1.1) dX12_markDistance_20 ?_
  refine q_VL hC hW (c_X12_materialTo l D cc ad S (cN S) (by omega)) mX12_165 0 (Mg0 cc ad S) rfl (by decide) rfl hl.1 rfl (Nat.le_of_ble_eq_true rfl) (by decide) dX12_markDistance_23 (fun H locs hW => ?_)
  refine lv_aload_n hx hb dX12_markDistance_26 rfl (lv_at hl 0 rfl) ?_
  refine q_get hC hW kX12_41 0 (Mg0 cc ad S) (v := .ref (ad 11)) rfl dX12_markDistance_27 ?_
  refine lv_bipush (v := 61) hx hb dX12_markDistance_30 (by decide) ?_
  refine q_lald hC hW 11 (Mg11 cc ad S) (v := (S.2 11 61)) 61 rfl (by omega) (by decide) rfl dX12_markDistance_32 ?_
  refine lv_lsub hx hb dX12_markDistance_33 ?_
  refine lv_aload_n hx hb dX12_markDistance_34 rfl (lv_at hl 0 rfl) ?_
  refine q_get hC hW kX12_53 0 (Mg0 cc ad S) (v := .ref (ad 15)) rfl dX12_markDistance_35 ?_
  refine lv_iload_n hx hb dX12_markDistance_38 rfl (lv_at hl 1 rfl) ?_
  refine q_lald hC hW 15 (Mg15 cc ad S) (v := (S.2 15 j)) j rfl (by omega) (by decide) rfl dX12_markDistance_39 ?_
  refine lv_ladd hx hb dX12_markDistance_40 ?_
  refine lv_goto (tgt := 47) hx hb dX12_markDistance_41 (by decide) ?_
  exact hend _ _ _ _ _ _ (by unfold sX12_markDistance; rfl) rfl hW dX12_markDistance_47
def sX12_markDistance_no (S : St) (x : Int32) : Int64 := sX12_lost
set_option maxHeartbeats 4000000 in
set_option maxRecDepth 100000 in
theorem c_X12_markDistance_no (l : Launch) (D : va_G) (cc : Nat → ClassId) (ad : Nat → Nat) (S : St) (x : Int32) (hI : InvM S) (hno : sX12_in x.toInt64 0 (lN (mM S) - 1) = 0) : CtL l D cc yX12_markDistance cX12_markDistance 2 1 [.ref (ad 0), .int x] (MW cc ad S) (sX12_markDistance_no S x) (MW cc ad S) := by
  refine CtL.of (plainFor_of_name (by decide +kernel)) (Nat.le_of_ble_eq_true rfl) ?_
  intro p e s m args below meth c A Q hC hW hend ls hl
  obtain ⟨⟨hx, hb, hml, hown, hts⟩, hNW⟩ := id hC
  have hl : lv_has ls 2 [(0, .ref (ad 0)), (1, .int x)] := hl
  obtain ⟨⟨-, hn1_hI, hn2_hI⟩, ⟨-, hq_hI⟩, -, ⟨-, hh_hI⟩, hs_hI⟩ := id hI
  refine lv_iload_n hx hb dX12_markDistance_0 rfl (lv_at hl 1 rfl) ?_
  refine lv_i2l hx hb dX12_markDistance_1 rfl ?_
  refine lv_lconst (v := 0) hx hb dX12_markDistance_2 rfl ?_
  refine lv_aload_n hx hb dX12_markDistance_3 rfl (lv_at hl 0 rfl) ?_
  refine q_get hC hW kX12_41 0 (Mg0 cc ad S) (v := .ref (ad 11)) rfl dX12_markDistance_4 ?_
  refine lv_bipush (v := 62) hx hb dX12_markDistance_7 (by decide) ?_
  refine q_lald hC hW 11 (Mg11 cc ad S) (v := (lN (mM S))) 62 rfl (by omega) (by decide) hI.2.2.1 dX12_markDistance_9 ?_
  refine lv_lconst (v := 1) hx hb dX12_markDistance_10 rfl ?_
  refine lv_lsub hx hb dX12_markDistance_11 ?_
  refine q_SI hC hW (c_X12_in l D cc _ (x.toInt64) 0 ((lN (mM S)) - 1)) mX12_118 (by decide) rfl hl.1 rfl (Nat.le_of_ble_eq_true rfl) (by decide) dX12_markDistance_12 (fun H locs hW => ?_)
  refine q_ri (v := nI 0) hno ?_
  refine q_if_eq_n (tgt := 44) hx hb (a := 0) rfl (by omega) dX12_markDistance_15 (by decide) (fun c_15 => ?_) (fun c_15 => by exfalso; omega)
  refine q_SL hC hW (c_X12_lost l D cc _) mX12_232 (by decide) rfl hl.1 rfl (Nat.le_of_ble_eq_true rfl) (by decide) dX12_markDistance_44 (fun H locs hW => ?_)
  exact hend _ _ _ _ _ _ (by unfold sX12_markDistance_no; rfl) rfl hW dX12_markDistance_47
def LX12_slackSpans_4_1 (S : St)  : Nat → Int32
  | 0 => 0
  | k + 1 => (if (S.2 11 (8 * k + 5)) < 20 then ((LX12_slackSpans_4_1 S k) ||| 0) else ((LX12_slackSpans_4_1 S k) ||| (1 <<< ((nI k) &&& 31))))
def sX12_slackSpans (S : St)  : Int32 := (LX12_slackSpans_4_1 S (cN S))
set_option maxHeartbeats 4000000 in
set_option maxRecDepth 100000 in
theorem c_X12_slackSpans (l : Launch) (D : va_G) (cc : Nat → ClassId) (ad : Nat → Nat) (S : St) (hI : InvM S) : CtI l D cc yX12_slackSpans cX12_slackSpans 3 .int 0 [.ref (ad 0)] (MW cc ad S) (sX12_slackSpans S ) (MW cc ad S) := by
  refine CtI.of (plainFor_of_name (by decide +kernel)) rfl (Nat.le_of_ble_eq_true rfl) ?_
  intro p e s m args below meth c A Q hC hW hend ls hl
  obtain ⟨⟨hx, hb, hml, hown, hts⟩, hNW⟩ := id hC
  have hl : lv_has ls 3 [(0, .ref (ad 0))] := hl
  obtain ⟨⟨-, hn1_hI, hn2_hI⟩, ⟨-, hq_hI⟩, -, ⟨-, hh_hI⟩, hs_hI⟩ := id hI
  refine lv_iconst (v := 0) hx hb dX12_slackSpans_0 (by decide) ?_
  refine lv_istore_n (lv' := [(1, .int 0), (0, .ref (ad 0))]) hx hb dX12_slackSpans_1 rfl hl (by decide) rfl (fun ls hl => ?_)
  refine lv_iconst (v := 0) hx hb dX12_slackSpans_2 (by decide) ?_
  refine lv_istore_n (lv' := [(2, .int 0), (1, .int 0), (0, .ref (ad 0))]) hx hb dX12_slackSpans_3 rfl hl (by decide) rfl (fun ls hl => ?_)
  have loop1 : ∀ (rn k : Nat), k + rn = (cN S) → ∀ (H : Heap) (locs : List Loc) (ls : Array Slot), Wd D cc (MW cc ad S) A s.heap H locs s → lv_has ls 3 [(0, .ref (ad 0)), (1, .int (LX12_slackSpans_4_1 S k)), (2, .int (nI k))] → W p l e (rmD 0) s m args below meth c H locs 0 0 Q (F0 m 4 ls []) := by
    intro rn
    induction rn with
    | zero =>
      intro k hk H locs ls hW hl
      obtain rfl : (cN S) = k := by omega
      refine lv_iload_n hx hb dX12_slackSpans_4 rfl (lv_at hl 2 rfl) ?_
      refine lv_aload_n hx hb dX12_slackSpans_5 rfl (lv_at hl 0 rfl) ?_
      refine q_get hC hW kX12_69 0 (Mg0 cc ad S) (v := .int (nI (cN S))) (congrArg (fun z => some (Value.int z)) hI.1.1) dX12_slackSpans_6 ?_
      refine q_icmp_ge_n (tgt := 46) hx hb (a := (cN S)) (b := (cN S)) rfl rfl (by omega) (by omega) dX12_slackSpans_9 (by decide) (fun c_9 => ?_) (fun c_9 => by exfalso; omega)
      refine lv_iload_n hx hb dX12_slackSpans_46 rfl (lv_at hl 1 rfl) ?_
      exact hend _ _ _ _ _ _ (by unfold sX12_slackSpans; rfl) rfl hW dX12_slackSpans_47
    | succ rn ih =>
      intro k hk H locs ls hW hl
      have hkN : k < (cN S) := by omega
      refine lv_iload_n hx hb dX12_slackSpans_4 rfl (lv_at hl 2 rfl) ?_
      refine lv_aload_n hx hb dX12_slackSpans_5 rfl (lv_at hl 0 rfl) ?_
      refine q_get hC hW kX12_69 0 (Mg0 cc ad S) (v := .int (nI (cN S))) (congrArg (fun z => some (Value.int z)) hI.1.1) dX12_slackSpans_6 ?_
      refine q_icmp_ge_n (tgt := 46) hx hb (a := k) (b := (cN S)) rfl rfl (by omega) (by omega) dX12_slackSpans_9 (by decide) (fun c_9 => by exfalso; omega) (fun c_9 => ?_)
      refine lv_iload_n hx hb dX12_slackSpans_12 rfl (lv_at hl 1 rfl) ?_
      refine lv_aload_n hx hb dX12_slackSpans_13 rfl (lv_at hl 0 rfl) ?_
      refine q_get hC hW kX12_41 0 (Mg0 cc ad S) (v := .ref (ad 11)) rfl dX12_slackSpans_14 ?_
      refine lv_bipush (v := 8) hx hb dX12_slackSpans_17 (by decide) ?_
      refine lv_iload_n hx hb dX12_slackSpans_19 rfl (lv_at hl 2 rfl) ?_
      refine lv_imul hx hb dX12_slackSpans_20 ?_
      refine q_ri (v := nI (8 * k)) (nq_mul (a := 8) (b := k) rfl rfl) ?_
      refine lv_iconst (v := 5) hx hb dX12_slackSpans_21 (by decide) ?_
      refine lv_iadd hx hb dX12_slackSpans_22 ?_
      refine q_ri (v := nI (8 * k + 5)) ((nq_add (a := (8 * k)) (b := 5) rfl rfl).trans (congrArg nI (by omega))) ?_
      refine q_lald hC hW 11 (Mg11 cc ad S) (v := (S.2 11 (8 * k + 5))) (8 * k + 5) rfl (by omega) (by decide) rfl dX12_slackSpans_23 ?_
      refine q_ldc2 hC nX12_197 dX12_slackSpans_24 ?_
      refine q_jlt (tgt := 37) hC dX12_slackSpans_27 dX12_slackSpans_28 (by decide) (fun c_27 => ?_) (fun c_27 => ?_)
      · skip
        refine lv_iconst (v := 0) hx hb dX12_slackSpans_37 (by decide) ?_
        refine lv_ior hx hb dX12_slackSpans_38 ?_
        refine lv_istore_n (lv' := [(1, .int ((LX12_slackSpans_4_1 S k) ||| 0)), (0, .ref (ad 0)), (2, .int (nI k))]) hx hb dX12_slackSpans_39 rfl hl (by decide) rfl (fun ls hl => ?_)
        refine lv_iinc (v := (nI (k + 1))) (lv' := [(2, .int (nI (k + 1))), (1, .int ((LX12_slackSpans_4_1 S k) ||| 0)), (0, .ref (ad 0))]) hx hb dX12_slackSpans_40 hl (k := 2) rfl (nq_inc k 1) (by decide) rfl (fun ls hl => ?_)
        refine lv_goto (tgt := 4) hx hb dX12_slackSpans_43 (by decide) ?_
        exact ih (k + 1) (by omega) _ _ _ hW (lv_sub hl [2, 1, 0] (by simp only [LX12_slackSpans_4_1, if_pos c_27]; rfl))
      · skip
        refine lv_iconst (v := 1) hx hb dX12_slackSpans_31 (by decide) ?_
        refine lv_iload_n hx hb dX12_slackSpans_32 rfl (lv_at hl 2 rfl) ?_
        refine lv_ishl hx hb dX12_slackSpans_33 ?_
        refine lv_goto (tgt := 38) hx hb dX12_slackSpans_34 (by decide) ?_
        refine lv_ior hx hb dX12_slackSpans_38 ?_
        refine lv_istore_n (lv' := [(1, .int ((LX12_slackSpans_4_1 S k) ||| (1 <<< ((nI k) &&& 31)))), (0, .ref (ad 0)), (2, .int (nI k))]) hx hb dX12_slackSpans_39 rfl hl (by decide) rfl (fun ls hl => ?_)
        refine lv_iinc (v := (nI (k + 1))) (lv' := [(2, .int (nI (k + 1))), (1, .int ((LX12_slackSpans_4_1 S k) ||| (1 <<< ((nI k) &&& 31)))), (0, .ref (ad 0))]) hx hb dX12_slackSpans_40 hl (k := 2) rfl (nq_inc k 1) (by decide) rfl (fun ls hl => ?_)
        refine lv_goto (tgt := 4) hx hb dX12_slackSpans_43 (by decide) ?_
        exact ih (k + 1) (by omega) _ _ _ hW (lv_sub hl [2, 1, 0] (by simp only [LX12_slackSpans_4_1, if_neg c_27]; rfl))
  exact loop1 (cN S) 0 (by omega) _ _ _ hW (lv_sub hl [2, 1, 0] rfl)
def sX12_event (S : St) (j : Nat) (w : Nat) : Int32 := ((S.2 13 (3 * j + w)).toInt32)
set_option maxHeartbeats 4000000 in
set_option maxRecDepth 100000 in
theorem c_X12_event (l : Launch) (D : va_G) (cc : Nat → ClassId) (ad : Nat → Nat) (S : St) (j : Nat) (w : Nat) (hI : InvM S) (hj : j < mH S) (hw : w ≤ 2) : CtI l D cc yX12_event cX12_event 3 .int 1 [.ref (ad 0), .int (nI j), .int (nI w)] (MW cc ad S) (sX12_event S j w) (MW cc ad S) := by
  refine CtI.of (plainFor_of_name (by decide +kernel)) rfl (Nat.le_of_ble_eq_true rfl) ?_
  intro p e s m args below meth c A Q hC hW hend ls hl
  obtain ⟨⟨hx, hb, hml, hown, hts⟩, hNW⟩ := id hC
  have hl : lv_has ls 3 [(0, .ref (ad 0)), (1, .int (nI j)), (2, .int (nI w))] := hl
  obtain ⟨⟨-, hn1_hI, hn2_hI⟩, ⟨-, hq_hI⟩, -, ⟨-, hh_hI⟩, hs_hI⟩ := id hI
  refine lv_iload_n hx hb dX12_event_0 rfl (lv_at hl 1 rfl) ?_
  refine q_if_lt_n (tgt := 16) hx hb (a := j) rfl (by omega) dX12_event_1 (by decide) (fun c_1 => by exfalso; omega) (fun c_1 => ?_)
  refine lv_iload_n hx hb dX12_event_4 rfl (lv_at hl 2 rfl) ?_
  refine lv_i2l (v := lN w) hx hb dX12_event_5 (nI_l (by omega)) ?_
  refine lv_lconst (v := 0) hx hb dX12_event_6 rfl ?_
  refine q_ldc2 hC nX12_129 dX12_event_7 ?_
  refine q_SI hC hW (c_X12_in l D cc _ (lN w) 0 2) mX12_118 (by decide) rfl hl.1 rfl (Nat.le_of_ble_eq_true rfl) (by decide) dX12_event_10 (fun H locs hW => ?_)
  refine q_ri (v := nI 1) (in_nat (b := 0) (c := 2) (by omega) hw (by omega)) ?_
  refine q_if_ne_n (tgt := 19) hx hb (a := 1) rfl (by omega) dX12_event_13 (by decide) (fun c_13 => ?_) (fun c_13 => by exfalso; omega)
  refine lv_iload_n hx hb dX12_event_19 rfl (lv_at hl 1 rfl) ?_
  refine lv_i2l (v := lN j) hx hb dX12_event_20 (nI_l (by omega)) ?_
  refine lv_aload_n hx hb dX12_event_21 rfl (lv_at hl 0 rfl) ?_
  refine q_get hC hW kX12_41 0 (Mg0 cc ad S) (v := .ref (ad 11)) rfl dX12_event_22 ?_
  refine lv_bipush (v := 63) hx hb dX12_event_25 (by decide) ?_
  refine q_lald hC hW 11 (Mg11 cc ad S) (v := (lN (mH S))) 63 rfl (by omega) (by decide) hI.2.2.2.1.1 dX12_event_27 ?_
  refine q_jge_n (tgt := 46) hC (a := j) (b2 := (mH S)) rfl rfl (by omega) (by omega) dX12_event_28 dX12_event_29 (by decide) (fun c_28 => by exfalso; omega) (fun c_28 => ?_)
  refine lv_aload_n hx hb dX12_event_32 rfl (lv_at hl 0 rfl) ?_
  refine q_get hC hW kX12_47 0 (Mg0 cc ad S) (v := .ref (ad 13)) rfl dX12_event_33 ?_
  refine lv_iconst (v := 3) hx hb dX12_event_36 (by decide) ?_
  refine lv_iload_n hx hb dX12_event_37 rfl (lv_at hl 1 rfl) ?_
  refine lv_imul hx hb dX12_event_38 ?_
  refine q_ri (v := nI (3 * j)) (nq_mul (a := 3) (b := j) rfl rfl) ?_
  refine lv_iload_n hx hb dX12_event_39 rfl (lv_at hl 2 rfl) ?_
  refine lv_iadd hx hb dX12_event_40 ?_
  refine q_ri (v := nI (3 * j + w)) ((nq_add (a := (3 * j)) (b := w) rfl rfl).trans (congrArg nI (by omega))) ?_
  refine q_lald hC hW 13 (Mg13 cc ad S) (v := (S.2 13 (3 * j + w))) (3 * j + w) rfl (by omega) (by decide) rfl dX12_event_41 ?_
  refine lv_l2i hx hb dX12_event_42 rfl ?_
  refine lv_goto (tgt := 48) hx hb dX12_event_43 (by decide) ?_
  exact hend _ _ _ _ _ _ (by unfold sX12_event; rfl) rfl hW dX12_event_48
def sX12_event_w (S : St) (x : Int32) (y : Int32) : Int32 := (-1000002)
set_option maxHeartbeats 4000000 in
set_option maxRecDepth 100000 in
theorem c_X12_event_w (l : Launch) (D : va_G) (cc : Nat → ClassId) (ad : Nat → Nat) (S : St) (x : Int32) (y : Int32) (hno : sX12_in y.toInt64 0 2 = 0) : CtI l D cc yX12_event cX12_event 3 .int 1 [.ref (ad 0), .int x, .int y] (MW cc ad S) (sX12_event_w S x y) (MW cc ad S) := by
  refine CtI.of (plainFor_of_name (by decide +kernel)) rfl (Nat.le_of_ble_eq_true rfl) ?_
  intro p e s m args below meth c A Q hC hW hend ls hl
  obtain ⟨⟨hx, hb, hml, hown, hts⟩, hNW⟩ := id hC
  have hl : lv_has ls 3 [(0, .ref (ad 0)), (1, .int x), (2, .int y)] := hl
  refine lv_iload_n hx hb dX12_event_0 rfl (lv_at hl 1 rfl) ?_
  refine lv_if_lt (tgt := 16) hx hb dX12_event_1 (by decide) (fun c_1 => ?_) (fun c_1 => ?_)
  · skip
    refine q_ldc hC nX12_126 dX12_event_16 ?_
    exact hend _ _ _ _ _ _ (by simp only [sX12_event_w, if_pos c_1]) rfl hW dX12_event_18
  · skip
    refine lv_iload_n hx hb dX12_event_4 rfl (lv_at hl 2 rfl) ?_
    refine lv_i2l hx hb dX12_event_5 rfl ?_
    refine lv_lconst (v := 0) hx hb dX12_event_6 rfl ?_
    refine q_ldc2 hC nX12_129 dX12_event_7 ?_
    refine q_SI hC hW (c_X12_in l D cc _ (y.toInt64) 0 2) mX12_118 (by decide) rfl hl.1 rfl (Nat.le_of_ble_eq_true rfl) (by decide) dX12_event_10 (fun H locs hW => ?_)
    refine q_ri (v := nI 0) hno ?_
    refine q_if_ne_n (tgt := 19) hx hb (a := 0) rfl (by omega) dX12_event_13 (by decide) (fun c_13 => by exfalso; omega) (fun c_13 => ?_)
    refine q_ldc hC nX12_126 dX12_event_16 ?_
    exact hend _ _ _ _ _ _ (by simp only [sX12_event_w, if_neg c_1]) rfl hW dX12_event_18
def sX12_event_no (S : St) (x : Int32) (y : Int32) : Int32 := (if x < 0 then (-1000002) else (if (sX12_in (y.toInt64) 0 2) = 0 then (-1000002) else (-1000005)))
set_option maxHeartbeats 4000000 in
set_option maxRecDepth 100000 in
theorem c_X12_event_no (l : Launch) (D : va_G) (cc : Nat → ClassId) (ad : Nat → Nat) (S : St) (x : Int32) (y : Int32) (hI : InvM S) (hno : x < 0 ∨ lN (mH S) ≤ x.toInt64) : CtI l D cc yX12_event cX12_event 3 .int 1 [.ref (ad 0), .int x, .int y] (MW cc ad S) (sX12_event_no S x y) (MW cc ad S) := by
  refine CtI.of (plainFor_of_name (by decide +kernel)) rfl (Nat.le_of_ble_eq_true rfl) ?_
  intro p e s m args below meth c A Q hC hW hend ls hl
  obtain ⟨⟨hx, hb, hml, hown, hts⟩, hNW⟩ := id hC
  have hl : lv_has ls 3 [(0, .ref (ad 0)), (1, .int x), (2, .int y)] := hl
  obtain ⟨⟨-, hn1_hI, hn2_hI⟩, ⟨-, hq_hI⟩, -, ⟨-, hh_hI⟩, hs_hI⟩ := id hI
  refine lv_iload_n hx hb dX12_event_0 rfl (lv_at hl 1 rfl) ?_
  refine lv_if_lt (tgt := 16) hx hb dX12_event_1 (by decide) (fun c_1 => ?_) (fun c_1 => ?_)
  · skip
    refine q_ldc hC nX12_126 dX12_event_16 ?_
    exact hend _ _ _ _ _ _ (by simp only [sX12_event_no, if_pos c_1]) rfl hW dX12_event_18
  · skip
    refine lv_iload_n hx hb dX12_event_4 rfl (lv_at hl 2 rfl) ?_
    refine lv_i2l hx hb dX12_event_5 rfl ?_
    refine lv_lconst (v := 0) hx hb dX12_event_6 rfl ?_
    refine q_ldc2 hC nX12_129 dX12_event_7 ?_
    refine q_SI hC hW (c_X12_in l D cc _ (y.toInt64) 0 2) mX12_118 (by decide) rfl hl.1 rfl (Nat.le_of_ble_eq_true rfl) (by decide) dX12_event_10 (fun H locs hW => ?_)
    refine lv_if_ne (tgt := 19) hx hb dX12_event_13 (by decide) (fun c_13 => ?_) (fun c_13 => ?_)
    · skip
      refine lv_iload_n hx hb dX12_event_19 rfl (lv_at hl 1 rfl) ?_
      refine lv_i2l hx hb dX12_event_20 rfl ?_
      refine lv_aload_n hx hb dX12_event_21 rfl (lv_at hl 0 rfl) ?_
      refine q_get hC hW kX12_41 0 (Mg0 cc ad S) (v := .ref (ad 11)) rfl dX12_event_22 ?_
      refine lv_bipush (v := 63) hx hb dX12_event_25 (by decide) ?_
      refine q_lald hC hW 11 (Mg11 cc ad S) (v := (lN (mH S))) 63 rfl (by omega) (by decide) hI.2.2.2.1.1 dX12_event_27 ?_
      refine q_jge (tgt := 46) hC dX12_event_28 dX12_event_29 (by decide) (fun c_28 => ?_) (fun c_28 => by exfalso; exact c_28 (hno.resolve_left c_1))
      refine q_ldc hC nX12_229 dX12_event_46 ?_
      exact hend _ _ _ _ _ _ (by simp only [sX12_event_no, if_neg c_1, if_neg c_13]) rfl hW dX12_event_48
    · skip
      refine q_ldc hC nX12_126 dX12_event_16 ?_
      exact hend _ _ _ _ _ _ (by simp only [sX12_event_no, if_neg c_1, if_pos c_13]) rfl hW dX12_event_18
