def sX12_steady (S : St) (i : Nat) : Int64 := (if 0 ≤ (sX12_down ((((S.2 0 0) + (S.2 0 1)) * (sX12_nominalSpeed S (i + 1) (S.2 0 4))) - ((S.2 0 0) * (S.2 0 4))) (S.2 0 4)) then (sX12_down ((((S.2 0 0) + (S.2 0 1)) * (sX12_nominalSpeed S (i + 1) (S.2 0 4))) - ((S.2 0 0) * (S.2 0 4))) (S.2 0 4)) else 0)
set_option maxHeartbeats 4000000 in
set_option maxRecDepth 100000 in
theorem c_X12_steady (l : Launch) (D : va_G) (cc : Nat → ClassId) (ad : Nat → Nat) (S : St) (i : Nat) (hi : i < 6) (ht : ¬ S.2 0 4 = 0) : CtL l D cc yX12_steady cX12_steady 6 2 [.ref (ad 0), .int (nI i)] (MW cc ad S) (sX12_steady S i) (MW cc ad S) := by
  refine CtL.of (plainFor_of_name (by decide +kernel)) (Nat.le_of_ble_eq_true rfl) ?_
  intro p e s m args below meth c A Q hC hW hend ls hl
  obtain ⟨⟨hx, hb, hml, hown, hts⟩, hNW⟩ := id hC
  have hl : lv_has ls 6 [(0, .ref (ad 0)), (1, .int (nI i))] := hl
  refine lv_aload_n hx hb dX12_steady_0 rfl (lv_at hl 0 rfl) ?_
  refine lv_iload_n hx hb dX12_steady_1 rfl (lv_at hl 1 rfl) ?_
  refine lv_iconst (v := 1) hx hb dX12_steady_2 (by decide) ?_
  refine lv_iadd hx hb dX12_steady_3 ?_
  refine q_ri (v := nI (i + 1)) (nq_add (a := i) (b := 1) rfl rfl) ?_
  refine lv_aload_n hx hb dX12_steady_4 rfl (lv_at hl 0 rfl) ?_
  refine q_get hC hW kX12_90 0 (Mg0 cc ad S) (v := .long (S.2 0 4)) rfl dX12_steady_5 ?_
  refine q_VL hC hW (c_X12_nominalSpeed l D cc ad S (i + 1) (S.2 0 4) (by omega)) mX12_161 0 (Mg0 cc ad S) rfl (by decide) rfl hl.1 rfl (Nat.le_of_ble_eq_true rfl) (by decide) dX12_steady_8 (fun H locs hW => ?_)
  refine lv_lstore_n (lv' := [(2, .long (sX12_nominalSpeed S (i + 1) (S.2 0 4))), (0, .ref (ad 0)), (1, .int (nI i))]) hx hb dX12_steady_11 rfl hl (by decide) rfl (fun ls hl => ?_)
  refine lv_aload_n hx hb dX12_steady_12 rfl (lv_at hl 1 rfl) ?_
  refine q_get hC hW kX12_75 0 (Mg0 cc ad S) (v := .long (S.2 0 0)) rfl dX12_steady_13 ?_
  refine lv_aload_n hx hb dX12_steady_16 rfl (lv_at hl 1 rfl) ?_
  refine q_get hC hW kX12_79 0 (Mg0 cc ad S) (v := .long (S.2 0 1)) rfl dX12_steady_17 ?_
  refine lv_ladd hx hb dX12_steady_20 ?_
  refine lv_lload_n hx hb dX12_steady_21 rfl (lv_at hl 0 rfl) ?_
  refine lv_lmul hx hb dX12_steady_22 ?_
  refine lv_aload_n hx hb dX12_steady_23 rfl (lv_at hl 1 rfl) ?_
  refine q_get hC hW kX12_75 0 (Mg0 cc ad S) (v := .long (S.2 0 0)) rfl dX12_steady_24 ?_
  refine lv_aload_n hx hb dX12_steady_27 rfl (lv_at hl 1 rfl) ?_
  refine q_get hC hW kX12_90 0 (Mg0 cc ad S) (v := .long (S.2 0 4)) rfl dX12_steady_28 ?_
  refine lv_lmul hx hb dX12_steady_31 ?_
  refine lv_lsub hx hb dX12_steady_32 ?_
  refine lv_aload_n hx hb dX12_steady_33 rfl (lv_at hl 1 rfl) ?_
  refine q_get hC hW kX12_90 0 (Mg0 cc ad S) (v := .long (S.2 0 4)) rfl dX12_steady_34 ?_
  refine q_SL hC hW (c_X12_down l D cc _ ((((S.2 0 0) + (S.2 0 1)) * (sX12_nominalSpeed S (i + 1) (S.2 0 4))) - ((S.2 0 0) * (S.2 0 4))) (S.2 0 4) ht) mX12_157 (by decide) rfl hl.1 rfl (Nat.le_of_ble_eq_true rfl) (by decide) dX12_steady_37 (fun H locs hW => ?_)
  refine lv_lstore (lv' := [(4, .long (sX12_down ((((S.2 0 0) + (S.2 0 1)) * (sX12_nominalSpeed S (i + 1) (S.2 0 4))) - ((S.2 0 0) * (S.2 0 4))) (S.2 0 4))), (2, .long (sX12_nominalSpeed S (i + 1) (S.2 0 4))), (0, .ref (ad 0)), (1, .int (nI i))]) hx hb dX12_steady_40 hl (by decide) rfl (fun ls hl => ?_)
  refine lv_lload hx hb dX12_steady_42 (lv_at hl 0 rfl) ?_
  refine lv_lconst (v := 0) hx hb dX12_steady_44 rfl ?_
  refine q_jge (tgt := 53) hC dX12_steady_45 dX12_steady_46 (by decide) (fun c_45 => ?_) (fun c_45 => ?_)
  · skip
    refine lv_lload hx hb dX12_steady_53 (lv_at hl 0 rfl) ?_
    exact hend _ _ _ _ _ _ (by simp only [sX12_steady, if_pos c_45]) rfl hW dX12_steady_55
  · skip
    refine lv_lconst (v := 0) hx hb dX12_steady_49 rfl ?_
    refine lv_goto (tgt := 55) hx hb dX12_steady_50 (by decide) ?_
    exact hend _ _ _ _ _ _ (by simp only [sX12_steady, if_neg c_45]) rfl hW dX12_steady_55
def sX12_steadyTension (S : St) (j : Nat) : Int32 := (if (S.2 0 4) = 0 then (-1000005) else ((sX12_steady S j).toInt32))
set_option maxHeartbeats 4000000 in
set_option maxRecDepth 100000 in
theorem c_X12_steadyTension (l : Launch) (D : va_G) (cc : Nat → ClassId) (ad : Nat → Nat) (S : St) (j : Nat) (hI : InvM S) (hj : j < cN S) : CtI l D cc yX12_steadyTension cX12_steadyTension 2 .int 3 [.ref (ad 0), .int (nI j)] (MW cc ad S) (sX12_steadyTension S j) (MW cc ad S) := by
  refine CtI.of (plainFor_of_name (by decide +kernel)) rfl (Nat.le_of_ble_eq_true rfl) ?_
  intro p e s m args below meth c A Q hC hW hend ls hl
  obtain ⟨⟨hx, hb, hml, hown, hts⟩, hNW⟩ := id hC
  have hl : lv_has ls 2 [(0, .ref (ad 0)), (1, .int (nI j))] := hl
  obtain ⟨⟨-, hn1_hI, hn2_hI⟩, ⟨-, hq_hI⟩, -, ⟨-, hh_hI⟩, hs_hI⟩ := id hI
  refine lv_aload_n hx hb dX12_steadyTension_0 rfl (lv_at hl 0 rfl) ?_
  refine lv_iload_n hx hb dX12_steadyTension_1 rfl (lv_at hl 1 rfl) ?_
  refine q_VI hC hW (c_X12_noSpan l D cc ad S (nI j)) mX12_135 0 (Mg0 cc ad S) rfl (by decide) rfl hl.1 rfl (Nat.le_of_ble_eq_true rfl) (by decide) dX12_steadyTension_2 (fun H locs hW => ?_)
  refine q_ri (v := nI 0) (noSpan_0 S j hI hj) ?_
  refine q_if_eq_n (tgt := 11) hx hb (a := 0) rfl (by omega) dX12_steadyTension_5 (by decide) (fun c_5 => ?_) (fun c_5 => by exfalso; omega)
  refine lv_aload_n hx hb dX12_steadyTension_11 rfl (lv_at hl 0 rfl) ?_
  refine q_get hC hW kX12_90 0 (Mg0 cc ad S) (v := .long (S.2 0 4)) rfl dX12_steadyTension_12 ?_
  refine lv_lconst (v := 0) hx hb dX12_steadyTension_15 rfl ?_
  refine q_jne (tgt := 25) hC dX12_steadyTension_16 dX12_steadyTension_17 (by decide) (fun c_16 => ?_) (fun c_16 => ?_)
  · skip
    refine lv_aload_n hx hb dX12_steadyTension_25 rfl (lv_at hl 0 rfl) ?_
    refine lv_iload_n hx hb dX12_steadyTension_26 rfl (lv_at hl 1 rfl) ?_
    refine q_VL hC hW (c_X12_steady l D cc ad S j (by omega) c_16) mX12_238 0 (Mg0 cc ad S) rfl (by decide) rfl hl.1 rfl (Nat.le_of_ble_eq_true rfl) (by decide) dX12_steadyTension_27 (fun H locs hW => ?_)
    refine lv_l2i hx hb dX12_steadyTension_30 rfl ?_
    exact hend _ _ _ _ _ _ (by simp only [sX12_steadyTension, if_neg c_16]) rfl hW dX12_steadyTension_31
  · skip
    refine q_ldc hC nX12_229 dX12_steadyTension_20 ?_
    refine lv_goto (tgt := 31) hx hb dX12_steadyTension_22 (by decide) ?_
    exact hend _ _ _ _ _ _ (by simp only [sX12_steadyTension, if_pos c_16]) rfl hW dX12_steadyTension_31
def sX12_steadyTension_no (S : St) (x : Int32) : Int32 := (-1000001)
set_option maxHeartbeats 4000000 in
set_option maxRecDepth 100000 in
theorem c_X12_steadyTension_no (l : Launch) (D : va_G) (cc : Nat → ClassId) (ad : Nat → Nat) (S : St) (x : Int32) (hno : sX12_noSpan S x = 1) : CtI l D cc yX12_steadyTension cX12_steadyTension 2 .int 3 [.ref (ad 0), .int x] (MW cc ad S) (sX12_steadyTension_no S x) (MW cc ad S) := by
  refine CtI.of (plainFor_of_name (by decide +kernel)) rfl (Nat.le_of_ble_eq_true rfl) ?_
  intro p e s m args below meth c A Q hC hW hend ls hl
  obtain ⟨⟨hx, hb, hml, hown, hts⟩, hNW⟩ := id hC
  have hl : lv_has ls 2 [(0, .ref (ad 0)), (1, .int x)] := hl
  refine lv_aload_n hx hb dX12_steadyTension_0 rfl (lv_at hl 0 rfl) ?_
  refine lv_iload_n hx hb dX12_steadyTension_1 rfl (lv_at hl 1 rfl) ?_
  refine q_VI hC hW (c_X12_noSpan l D cc ad S x) mX12_135 0 (Mg0 cc ad S) rfl (by decide) rfl hl.1 rfl (Nat.le_of_ble_eq_true rfl) (by decide) dX12_steadyTension_2 (fun H locs hW => ?_)
  refine q_ri (v := nI 1) hno ?_
  refine q_if_eq_n (tgt := 11) hx hb (a := 1) rfl (by omega) dX12_steadyTension_5 (by decide) (fun c_5 => by exfalso; omega) (fun c_5 => ?_)
  refine q_ldc hC nX12_138 dX12_steadyTension_8 ?_
  exact hend _ _ _ _ _ _ (by unfold sX12_steadyTension_no; rfl) rfl hW dX12_steadyTension_10
theorem inw {t : Nat} (h1 : 1 ≤ t) (h2 : t ≤ 300) : sX12_in (lN t) 1 300 = nI 1 := in_nat (b := 1) (c := 300) h1 h2 (by decide)
/-- the number of rounds until something isn't 0 any more -/
def xStop (f : Nat → Int64) : Nat → Nat → Nat
  | 0, k => k
  | n + 1, k => if f k = 0 then xStop f n (k + 1) else k
theorem xStop_le (f : Nat → Int64) : ∀ n k : Nat, k ≤ xStop f n k ∧ xStop f n k ≤ k + n
  | 0, k => by simp [xStop]
  | n + 1, k => by
    unfold xStop
    split
    · have := xStop_le f n (k + 1)
      omega
    · omega
def LX12_run_17_S (S : St) (t : Nat) : Nat → St
  | 0 => S
  | k + 1 => (if (LX12_run_17_S S t k).2 11 49 = 0 then sX12_tick_S (LX12_run_17_S S t k) else (LX12_run_17_S S t k))
theorem invL_run12 (S : St) (t k : Nat) (hI : InvM S) : InvM (LX12_run_17_S S t k) := by
  induction k with
  | zero => exact hI
  | succ k ih =>
    unfold LX12_run_17_S
    split
    · exact inv_X12_tick _ ih
    · exact ih
def sX12_run (S : St) (t : Nat) : Int32 := ((LX12_run_17_S S t t).2 11 49).toInt32
def sX12_run_S (S : St) (t : Nat) : St := LX12_run_17_S S t t
set_option maxHeartbeats 4000000 in
set_option maxRecDepth 100000 in
theorem c_X12_run (l : Launch) (D : va_G) (cc : Nat → ClassId) (ad : Nat → Nat) (S : St) (t : Nat) (hI : InvM S) (ht1 : 1 ≤ t) (ht : t ≤ 300) (hOK : ∀ k, k < t → (LX12_run_17_S S t k).2 11 49 = 0 → OKT (LX12_run_17_S S t k)) : CtI l D cc yX12_run cX12_run 3 .int 5 [.ref (ad 0), .int (nI t)] (MW cc ad S) (sX12_run S t) (MW cc ad (sX12_run_S S t)) := by
  refine CtI.of (plainFor_of_name (by decide +kernel)) rfl (Nat.le_of_ble_eq_true rfl) ?_
  intro p e s m args below meth c A Q hC hW hend ls hl
  obtain ⟨⟨hx, hb, hml, hown, hts⟩, hNW⟩ := id hC
  have hl : lv_has ls 3 [(0, .ref (ad 0)), (1, .int (nI t))] := hl
  obtain ⟨⟨-, hn1_hI, hn2_hI⟩, ⟨-, hq_hI⟩, -, ⟨-, hh_hI⟩, hs_hI⟩ := id hI
  refine lv_iload_n hx hb dX12_run_0 rfl (lv_at hl 1 rfl) ?_
  refine lv_i2l (v := lN t) hx hb dX12_run_1 (nI_l (by omega)) ?_
  refine lv_lconst (v := 1) hx hb dX12_run_2 rfl ?_
  refine q_ldc2 hC nX12_224 dX12_run_3 ?_
  refine q_SI hC hW (c_X12_in l D cc _ (lN t) 1 300) mX12_118 (by decide) rfl hl.1 rfl (Nat.le_of_ble_eq_true rfl) (by decide) dX12_run_6 (fun H locs hW => ?_)
  refine q_ri (v := nI 1) (inw ht1 ht) ?_
  refine q_if_ne_n (tgt := 15) hx hb (a := 1) rfl (by omega) dX12_run_9 (by decide) (fun c_9 => ?_) (fun c_9 => by exfalso; omega)
  refine lv_iconst (v := 0) hx hb dX12_run_15 (by decide) ?_
  refine lv_istore_n (lv' := [(2, .int 0), (0, .ref (ad 0)), (1, .int (nI t))]) hx hb dX12_run_16 rfl hl (by decide) rfl (fun ls hl => ?_)
  have loop1 : ∀ (rn k : Nat), k + rn = t → ∀ (H : Heap) (locs : List Loc) (ls : Array Slot), Wd D cc (MW cc ad (LX12_run_17_S S t k)) A s.heap H locs s → lv_has ls 3 [(0, .ref (ad 0)), (1, .int (nI t)), (2, .int (nI k))] → W p l e (rmD 5) s m args below meth c H locs 0 0 Q (F0 m 17 ls []) := by
    intro rn
    induction rn with
    | zero =>
      intro k hk H locs ls hW hl
      obtain rfl : t = k := by omega
      have hI_1 : InvM (LX12_run_17_S S t t) := invL_run12 S t t hI
      obtain ⟨⟨-, hn1_hI_1, hn2_hI_1⟩, ⟨-, hq_hI_1⟩, -, ⟨-, hh_hI_1⟩, hs_hI_1⟩ := id hI_1
      refine lv_iload_n hx hb dX12_run_17 rfl (lv_at hl 2 rfl) ?_
      refine lv_iload_n hx hb dX12_run_18 rfl (lv_at hl 1 rfl) ?_
      refine q_icmp_ge_n (tgt := 44) hx hb (a := t) (b := t) rfl rfl (by omega) (by omega) dX12_run_19 (by decide) (fun c_19 => ?_) (fun c_19 => by exfalso; omega)
      refine lv_aload_n hx hb dX12_run_44 rfl (lv_at hl 0 rfl) ?_
      refine q_get hC hW kX12_41 0 (Mg0 cc ad (LX12_run_17_S S t t)) (v := .ref (ad 11)) rfl dX12_run_45 ?_
      refine lv_bipush (v := 49) hx hb dX12_run_48 (by decide) ?_
      refine q_lald hC hW 11 (Mg11 cc ad (LX12_run_17_S S t t)) (v := ((LX12_run_17_S S t t).2 11 49)) 49 rfl (by omega) (by decide) rfl dX12_run_50 ?_
      refine lv_l2i hx hb dX12_run_51 rfl ?_
      exact hend _ _ _ _ _ _ (by unfold sX12_run; rfl) (by unfold sX12_run_S; rfl) hW dX12_run_52
    | succ rn ih =>
      intro k hk H locs ls hW hl
      have hkN : k < t := by omega
      have hI_2 : InvM (LX12_run_17_S S t k) := invL_run12 S t k hI
      obtain ⟨⟨-, hn1_hI_2, hn2_hI_2⟩, ⟨-, hq_hI_2⟩, -, ⟨-, hh_hI_2⟩, hs_hI_2⟩ := id hI_2
      refine lv_iload_n hx hb dX12_run_17 rfl (lv_at hl 2 rfl) ?_
      refine lv_iload_n hx hb dX12_run_18 rfl (lv_at hl 1 rfl) ?_
      refine q_icmp_ge_n (tgt := 44) hx hb (a := k) (b := t) rfl rfl (by omega) (by omega) dX12_run_19 (by decide) (fun c_19 => by exfalso; omega) (fun c_19 => ?_)
      refine lv_aload_n hx hb dX12_run_22 rfl (lv_at hl 0 rfl) ?_
      refine q_get hC hW kX12_41 0 (Mg0 cc ad (LX12_run_17_S S t k)) (v := .ref (ad 11)) rfl dX12_run_23 ?_
      refine lv_bipush (v := 49) hx hb dX12_run_26 (by decide) ?_
      refine q_lald hC hW 11 (Mg11 cc ad (LX12_run_17_S S t k)) (v := ((LX12_run_17_S S t k).2 11 49)) 49 rfl (by omega) (by decide) rfl dX12_run_28 ?_
      refine lv_lconst (v := 0) hx hb dX12_run_29 rfl ?_
      refine q_jne (tgt := 44) hC dX12_run_30 dX12_run_31 (by decide) (fun c_30 => ?_) (fun c_30 => ?_)
      · skip
        have hst := stay (LX12_run_17_S S t) (fun X => X.2 11 49 = 0) (fun j hj => by simp only [LX12_run_17_S]; exact if_neg hj) k t (by omega) c_30
        rw [← hst] at hW
        have hI_3 : InvM (LX12_run_17_S S t t) := invL_run12 S t t hI
        obtain ⟨⟨-, hn1_hI_3, hn2_hI_3⟩, ⟨-, hq_hI_3⟩, -, ⟨-, hh_hI_3⟩, hs_hI_3⟩ := id hI_3
        refine lv_aload_n hx hb dX12_run_44 rfl (lv_at hl 0 rfl) ?_
        refine q_get hC hW kX12_41 0 (Mg0 cc ad (LX12_run_17_S S t t)) (v := .ref (ad 11)) rfl dX12_run_45 ?_
        refine lv_bipush (v := 49) hx hb dX12_run_48 (by decide) ?_
        refine q_lald hC hW 11 (Mg11 cc ad (LX12_run_17_S S t t)) (v := ((LX12_run_17_S S t t).2 11 49)) 49 rfl (by omega) (by decide) rfl dX12_run_50 ?_
        refine lv_l2i hx hb dX12_run_51 rfl ?_
        exact hend _ _ _ _ _ _ (by unfold sX12_run; rfl) (by unfold sX12_run_S; rfl) hW dX12_run_52
      · skip
        refine lv_aload_n hx hb dX12_run_34 rfl (lv_at hl 0 rfl) ?_
        refine q_VV hC hW (c_X12_tick l D cc ad (LX12_run_17_S S t k) hI_2 (hOK k (by omega) c_30)) mX12_226 0 (Mg0 cc ad (LX12_run_17_S S t k)) rfl (by decide) rfl hl.1 rfl (Nat.le_of_ble_eq_true rfl) (by decide) dX12_run_35 (fun H locs hW => ?_)
        have hI_4 : InvM (sX12_tick_S (LX12_run_17_S S t k)) := inv_X12_tick (LX12_run_17_S S t k) hI_2
        obtain ⟨⟨-, hn1_hI_4, hn2_hI_4⟩, ⟨-, hq_hI_4⟩, -, ⟨-, hh_hI_4⟩, hs_hI_4⟩ := id hI_4
        refine lv_iinc (v := (nI (k + 1))) (lv' := [(2, .int (nI (k + 1))), (0, .ref (ad 0)), (1, .int (nI t))]) hx hb dX12_run_38 hl (k := 2) rfl (nq_inc k 1) (by decide) rfl (fun ls hl => ?_)
        refine lv_goto (tgt := 17) hx hb dX12_run_41 (by decide) ?_
        exact ih (k + 1) (by omega) _ _ _ (by simp only [LX12_run_17_S, if_pos c_30]; exact hW) (lv_sub hl [1, 2, 0] rfl)
  exact loop1 t 0 (by omega) _ _ _ hW (lv_sub hl [1, 2, 0] rfl)
def sX12_run_no (S : St) (x : Int32) : Int32 := (-1000002)
set_option maxHeartbeats 4000000 in
set_option maxRecDepth 100000 in
theorem c_X12_run_no (l : Launch) (D : va_G) (cc : Nat → ClassId) (ad : Nat → Nat) (S : St) (x : Int32) (hno : sX12_in x.toInt64 1 300 = 0) : CtI l D cc yX12_run cX12_run 3 .int 5 [.ref (ad 0), .int x] (MW cc ad S) (sX12_run_no S x) (MW cc ad S) := by
  refine CtI.of (plainFor_of_name (by decide +kernel)) rfl (Nat.le_of_ble_eq_true rfl) ?_
  intro p e s m args below meth c A Q hC hW hend ls hl
  obtain ⟨⟨hx, hb, hml, hown, hts⟩, hNW⟩ := id hC
  have hl : lv_has ls 3 [(0, .ref (ad 0)), (1, .int x)] := hl
  refine lv_iload_n hx hb dX12_run_0 rfl (lv_at hl 1 rfl) ?_
  refine lv_i2l hx hb dX12_run_1 rfl ?_
  refine lv_lconst (v := 1) hx hb dX12_run_2 rfl ?_
  refine q_ldc2 hC nX12_224 dX12_run_3 ?_
  refine q_SI hC hW (c_X12_in l D cc _ (x.toInt64) 1 300) mX12_118 (by decide) rfl hl.1 rfl (Nat.le_of_ble_eq_true rfl) (by decide) dX12_run_6 (fun H locs hW => ?_)
  refine q_ri (v := nI 0) hno ?_
  refine q_if_ne_n (tgt := 15) hx hb (a := 0) rfl (by omega) dX12_run_9 (by decide) (fun c_9 => by exfalso; omega) (fun c_9 => ?_)
  refine q_ldc hC nX12_126 dX12_run_12 ?_
  exact hend _ _ _ _ _ _ (by unfold sX12_run_no; rfl) rfl hW dX12_run_14
def LX12_putAside_2_S (S : St)  : Nat → St
  | 0 => S
  | k + 1 => (sJ (LX12_putAside_2_S S k) 12 k ((LX12_putAside_2_S S k).2 11 k))
def LX12_putAside_28_S (S : St)  : Nat → St
  | 0 => (LX12_putAside_2_S S 64)
  | k + 1 => (sJ (LX12_putAside_28_S S k) 14 k ((LX12_putAside_28_S S k).2 13 k))
def LX12_putAside_54_S (S : St)  : Nat → St
  | 0 => (LX12_putAside_28_S S 90)
  | k + 1 => (sJ (LX12_putAside_54_S S k) 16 k ((LX12_putAside_54_S S k).2 15 k))
def sX12_putAside_S (S : St)  : St := (LX12_putAside_54_S S 512)
set_option maxHeartbeats 4000000 in
set_option maxRecDepth 100000 in
theorem c_X12_putAside (l : Launch) (D : va_G) (cc : Nat → ClassId) (ad : Nat → Nat) (S : St) : CtV l D cc yX12_putAside cX12_putAside 2 0 [.ref (ad 0)] (MW cc ad S) (MW cc ad (sX12_putAside_S S )) := by
  refine CtV.of (plainFor_of_name (by decide +kernel)) (Nat.le_of_ble_eq_true rfl) ?_
  intro p e s m args below meth c A Q hC hW hend ls hl
  obtain ⟨⟨hx, hb, hml, hown, hts⟩, hNW⟩ := id hC
  have hl : lv_has ls 2 [(0, .ref (ad 0))] := hl
  refine lv_iconst (v := 0) hx hb dX12_putAside_0 (by decide) ?_
  refine lv_istore_n (lv' := [(1, .int 0), (0, .ref (ad 0))]) hx hb dX12_putAside_1 rfl hl (by decide) rfl (fun ls hl => ?_)
  have loop1 : ∀ (rn k : Nat), k + rn = 64 → ∀ (H : Heap) (locs : List Loc) (ls : Array Slot), Wd D cc (MW cc ad (LX12_putAside_2_S S k)) A s.heap H locs s → lv_has ls 2 [(0, .ref (ad 0)), (1, .int (nI k))] → W p l e (rmD 0) s m args below meth c H locs 0 0 Q (F0 m 2 ls []) := by
    intro rn
    induction rn with
    | zero =>
      intro k hk H locs ls hW hl
      obtain rfl : 64 = k := by omega
      refine lv_iload_n hx hb dX12_putAside_2 rfl (lv_at hl 1 rfl) ?_
      refine lv_bipush (v := 64) hx hb dX12_putAside_3 (by decide) ?_
      refine q_icmp_ge_n (tgt := 26) hx hb (a := 64) (b := 64) rfl rfl (by omega) (by omega) dX12_putAside_5 (by decide) (fun c_5 => ?_) (fun c_5 => by exfalso; omega)
      refine lv_iconst (v := 0) hx hb dX12_putAside_26 (by decide) ?_
      refine lv_istore_n (lv' := [(1, .int 0), (0, .ref (ad 0))]) hx hb dX12_putAside_27 rfl hl (by decide) rfl (fun ls hl => ?_)
      have loop2 : ∀ (rn k : Nat), k + rn = 90 → ∀ (H : Heap) (locs : List Loc) (ls : Array Slot), Wd D cc (MW cc ad (LX12_putAside_28_S S k)) A s.heap H locs s → lv_has ls 2 [(0, .ref (ad 0)), (1, .int (nI k))] → W p l e (rmD 0) s m args below meth c H locs 0 0 Q (F0 m 28 ls []) := by
        intro rn
        induction rn with
        | zero =>
          intro k hk H locs ls hW hl
          obtain rfl : 90 = k := by omega
          refine lv_iload_n hx hb dX12_putAside_28 rfl (lv_at hl 1 rfl) ?_
          refine lv_bipush (v := 90) hx hb dX12_putAside_29 (by decide) ?_
          refine q_icmp_ge_n (tgt := 52) hx hb (a := 90) (b := 90) rfl rfl (by omega) (by omega) dX12_putAside_31 (by decide) (fun c_31 => ?_) (fun c_31 => by exfalso; omega)
          refine lv_iconst (v := 0) hx hb dX12_putAside_52 (by decide) ?_
          refine lv_istore_n (lv' := [(1, .int 0), (0, .ref (ad 0))]) hx hb dX12_putAside_53 rfl hl (by decide) rfl (fun ls hl => ?_)
          have loop3 : ∀ (rn k : Nat), k + rn = 512 → ∀ (H : Heap) (locs : List Loc) (ls : Array Slot), Wd D cc (MW cc ad (LX12_putAside_54_S S k)) A s.heap H locs s → lv_has ls 2 [(0, .ref (ad 0)), (1, .int (nI k))] → W p l e (rmD 0) s m args below meth c H locs 0 0 Q (F0 m 54 ls []) := by
            intro rn
            induction rn with
            | zero =>
              intro k hk H locs ls hW hl
              obtain rfl : 512 = k := by omega
              refine lv_iload_n hx hb dX12_putAside_54 rfl (lv_at hl 1 rfl) ?_
              refine lv_sipush (v := 512) hx hb dX12_putAside_55 (by decide) ?_
              refine q_icmp_ge_n (tgt := 79) hx hb (a := 512) (b := 512) rfl rfl (by omega) (by omega) dX12_putAside_58 (by decide) (fun c_58 => ?_) (fun c_58 => by exfalso; omega)
              exact hend _ _ _ _ _ (by unfold sX12_putAside_S; rfl) hW dX12_putAside_79
            | succ rn ih =>
              intro k hk H locs ls hW hl
              have hkN : k < 512 := by omega
              refine lv_iload_n hx hb dX12_putAside_54 rfl (lv_at hl 1 rfl) ?_
              refine lv_sipush (v := 512) hx hb dX12_putAside_55 (by decide) ?_
              refine q_icmp_ge_n (tgt := 79) hx hb (a := k) (b := 512) rfl rfl (by omega) (by omega) dX12_putAside_58 (by decide) (fun c_58 => by exfalso; omega) (fun c_58 => ?_)
              refine lv_aload_n hx hb dX12_putAside_61 rfl (lv_at hl 0 rfl) ?_
              refine q_get hC hW kX12_56 0 (Mg0 cc ad (LX12_putAside_54_S S k)) (v := .ref (ad 16)) rfl dX12_putAside_62 ?_
              refine lv_iload_n hx hb dX12_putAside_65 rfl (lv_at hl 1 rfl) ?_
              refine lv_aload_n hx hb dX12_putAside_66 rfl (lv_at hl 0 rfl) ?_
              refine q_get hC hW kX12_53 0 (Mg0 cc ad (LX12_putAside_54_S S k)) (v := .ref (ad 15)) rfl dX12_putAside_67 ?_
              refine lv_iload_n hx hb dX12_putAside_70 rfl (lv_at hl 1 rfl) ?_
              refine q_lald hC hW 15 (Mg15 cc ad (LX12_putAside_54_S S k)) (v := ((LX12_putAside_54_S S k).2 15 k)) k rfl (by omega) (by decide) rfl dX12_putAside_71 ?_
              refine q_last hC hW 16 (Mg16 cc ad (LX12_putAside_54_S S k)) k rfl (by omega) (by decide) (Ms16 cc ad (LX12_putAside_54_S S k) k ((LX12_putAside_54_S S k).2 15 k)) dX12_putAside_72 (fun H locs hW => ?_)
              refine lv_iinc (v := (nI (k + 1))) (lv' := [(1, .int (nI (k + 1))), (0, .ref (ad 0))]) hx hb dX12_putAside_73 hl (k := 1) rfl (nq_inc k 1) (by decide) rfl (fun ls hl => ?_)
              refine lv_goto (tgt := 54) hx hb dX12_putAside_76 (by decide) ?_
              exact ih (k + 1) (by omega) _ _ _ (by simp only [LX12_putAside_54_S]; exact hW) (lv_sub hl [1, 0] rfl)
          exact loop3 512 0 (by omega) _ _ _ hW (lv_sub hl [1, 0] rfl)
        | succ rn ih =>
          intro k hk H locs ls hW hl
          have hkN : k < 90 := by omega
          refine lv_iload_n hx hb dX12_putAside_28 rfl (lv_at hl 1 rfl) ?_
          refine lv_bipush (v := 90) hx hb dX12_putAside_29 (by decide) ?_
          refine q_icmp_ge_n (tgt := 52) hx hb (a := k) (b := 90) rfl rfl (by omega) (by omega) dX12_putAside_31 (by decide) (fun c_31 => by exfalso; omega) (fun c_31 => ?_)
          refine lv_aload_n hx hb dX12_putAside_34 rfl (lv_at hl 0 rfl) ?_
          refine q_get hC hW kX12_50 0 (Mg0 cc ad (LX12_putAside_28_S S k)) (v := .ref (ad 14)) rfl dX12_putAside_35 ?_
          refine lv_iload_n hx hb dX12_putAside_38 rfl (lv_at hl 1 rfl) ?_
          refine lv_aload_n hx hb dX12_putAside_39 rfl (lv_at hl 0 rfl) ?_
          refine q_get hC hW kX12_47 0 (Mg0 cc ad (LX12_putAside_28_S S k)) (v := .ref (ad 13)) rfl dX12_putAside_40 ?_
          refine lv_iload_n hx hb dX12_putAside_43 rfl (lv_at hl 1 rfl) ?_
          refine q_lald hC hW 13 (Mg13 cc ad (LX12_putAside_28_S S k)) (v := ((LX12_putAside_28_S S k).2 13 k)) k rfl (by omega) (by decide) rfl dX12_putAside_44 ?_
          refine q_last hC hW 14 (Mg14 cc ad (LX12_putAside_28_S S k)) k rfl (by omega) (by decide) (Ms14 cc ad (LX12_putAside_28_S S k) k ((LX12_putAside_28_S S k).2 13 k)) dX12_putAside_45 (fun H locs hW => ?_)
          refine lv_iinc (v := (nI (k + 1))) (lv' := [(1, .int (nI (k + 1))), (0, .ref (ad 0))]) hx hb dX12_putAside_46 hl (k := 1) rfl (nq_inc k 1) (by decide) rfl (fun ls hl => ?_)
          refine lv_goto (tgt := 28) hx hb dX12_putAside_49 (by decide) ?_
          exact ih (k + 1) (by omega) _ _ _ (by simp only [LX12_putAside_28_S]; exact hW) (lv_sub hl [1, 0] rfl)
      exact loop2 90 0 (by omega) _ _ _ hW (lv_sub hl [1, 0] rfl)
    | succ rn ih =>
      intro k hk H locs ls hW hl
      have hkN : k < 64 := by omega
      refine lv_iload_n hx hb dX12_putAside_2 rfl (lv_at hl 1 rfl) ?_
      refine lv_bipush (v := 64) hx hb dX12_putAside_3 (by decide) ?_
      refine q_icmp_ge_n (tgt := 26) hx hb (a := k) (b := 64) rfl rfl (by omega) (by omega) dX12_putAside_5 (by decide) (fun c_5 => by exfalso; omega) (fun c_5 => ?_)
      refine lv_aload_n hx hb dX12_putAside_8 rfl (lv_at hl 0 rfl) ?_
      refine q_get hC hW kX12_44 0 (Mg0 cc ad (LX12_putAside_2_S S k)) (v := .ref (ad 12)) rfl dX12_putAside_9 ?_
      refine lv_iload_n hx hb dX12_putAside_12 rfl (lv_at hl 1 rfl) ?_
      refine lv_aload_n hx hb dX12_putAside_13 rfl (lv_at hl 0 rfl) ?_
      refine q_get hC hW kX12_41 0 (Mg0 cc ad (LX12_putAside_2_S S k)) (v := .ref (ad 11)) rfl dX12_putAside_14 ?_
      refine lv_iload_n hx hb dX12_putAside_17 rfl (lv_at hl 1 rfl) ?_
      refine q_lald hC hW 11 (Mg11 cc ad (LX12_putAside_2_S S k)) (v := ((LX12_putAside_2_S S k).2 11 k)) k rfl (by omega) (by decide) rfl dX12_putAside_18 ?_
      refine q_last hC hW 12 (Mg12 cc ad (LX12_putAside_2_S S k)) k rfl (by omega) (by decide) (Ms12 cc ad (LX12_putAside_2_S S k) k ((LX12_putAside_2_S S k).2 11 k)) dX12_putAside_19 (fun H locs hW => ?_)
      refine lv_iinc (v := (nI (k + 1))) (lv' := [(1, .int (nI (k + 1))), (0, .ref (ad 0))]) hx hb dX12_putAside_20 hl (k := 1) rfl (nq_inc k 1) (by decide) rfl (fun ls hl => ?_)
      refine lv_goto (tgt := 2) hx hb dX12_putAside_23 (by decide) ?_
      exact ih (k + 1) (by omega) _ _ _ (by simp only [LX12_putAside_2_S]; exact hW) (lv_sub hl [1, 0] rfl)
  exact loop1 64 0 (by omega) _ _ _ hW (lv_sub hl [1, 0] rfl)
def LX12_takeBack_2_S (S : St)  : Nat → St
  | 0 => S
  | k + 1 => (sJ (LX12_takeBack_2_S S k) 11 k ((LX12_takeBack_2_S S k).2 12 k))
def LX12_takeBack_28_S (S : St)  : Nat → St
  | 0 => (LX12_takeBack_2_S S 64)
  | k + 1 => (sJ (LX12_takeBack_28_S S k) 13 k ((LX12_takeBack_28_S S k).2 14 k))
def LX12_takeBack_54_S (S : St)  : Nat → St
  | 0 => (LX12_takeBack_28_S S 90)
  | k + 1 => (sJ (LX12_takeBack_54_S S k) 15 k ((LX12_takeBack_54_S S k).2 16 k))
def sX12_takeBack_S (S : St)  : St := (LX12_takeBack_54_S S 512)
set_option maxHeartbeats 4000000 in
set_option maxRecDepth 100000 in
theorem c_X12_takeBack (l : Launch) (D : va_G) (cc : Nat → ClassId) (ad : Nat → Nat) (S : St) : CtV l D cc yX12_takeBack cX12_takeBack 2 0 [.ref (ad 0)] (MW cc ad S) (MW cc ad (sX12_takeBack_S S )) := by
  refine CtV.of (plainFor_of_name (by decide +kernel)) (Nat.le_of_ble_eq_true rfl) ?_
  intro p e s m args below meth c A Q hC hW hend ls hl
  obtain ⟨⟨hx, hb, hml, hown, hts⟩, hNW⟩ := id hC
  have hl : lv_has ls 2 [(0, .ref (ad 0))] := hl
  refine lv_iconst (v := 0) hx hb dX12_takeBack_0 (by decide) ?_
  refine lv_istore_n (lv' := [(1, .int 0), (0, .ref (ad 0))]) hx hb dX12_takeBack_1 rfl hl (by decide) rfl (fun ls hl => ?_)
  have loop1 : ∀ (rn k : Nat), k + rn = 64 → ∀ (H : Heap) (locs : List Loc) (ls : Array Slot), Wd D cc (MW cc ad (LX12_takeBack_2_S S k)) A s.heap H locs s → lv_has ls 2 [(0, .ref (ad 0)), (1, .int (nI k))] → W p l e (rmD 0) s m args below meth c H locs 0 0 Q (F0 m 2 ls []) := by
    intro rn
    induction rn with
    | zero =>
      intro k hk H locs ls hW hl
      obtain rfl : 64 = k := by omega
      refine lv_iload_n hx hb dX12_takeBack_2 rfl (lv_at hl 1 rfl) ?_
      refine lv_bipush (v := 64) hx hb dX12_takeBack_3 (by decide) ?_
      refine q_icmp_ge_n (tgt := 26) hx hb (a := 64) (b := 64) rfl rfl (by omega) (by omega) dX12_takeBack_5 (by decide) (fun c_5 => ?_) (fun c_5 => by exfalso; omega)
      refine lv_iconst (v := 0) hx hb dX12_takeBack_26 (by decide) ?_
      refine lv_istore_n (lv' := [(1, .int 0), (0, .ref (ad 0))]) hx hb dX12_takeBack_27 rfl hl (by decide) rfl (fun ls hl => ?_)
      have loop2 : ∀ (rn k : Nat), k + rn = 90 → ∀ (H : Heap) (locs : List Loc) (ls : Array Slot), Wd D cc (MW cc ad (LX12_takeBack_28_S S k)) A s.heap H locs s → lv_has ls 2 [(0, .ref (ad 0)), (1, .int (nI k))] → W p l e (rmD 0) s m args below meth c H locs 0 0 Q (F0 m 28 ls []) := by
        intro rn
        induction rn with
        | zero =>
          intro k hk H locs ls hW hl
          obtain rfl : 90 = k := by omega
          refine lv_iload_n hx hb dX12_takeBack_28 rfl (lv_at hl 1 rfl) ?_
          refine lv_bipush (v := 90) hx hb dX12_takeBack_29 (by decide) ?_
          refine q_icmp_ge_n (tgt := 52) hx hb (a := 90) (b := 90) rfl rfl (by omega) (by omega) dX12_takeBack_31 (by decide) (fun c_31 => ?_) (fun c_31 => by exfalso; omega)
          refine lv_iconst (v := 0) hx hb dX12_takeBack_52 (by decide) ?_
          refine lv_istore_n (lv' := [(1, .int 0), (0, .ref (ad 0))]) hx hb dX12_takeBack_53 rfl hl (by decide) rfl (fun ls hl => ?_)
          have loop3 : ∀ (rn k : Nat), k + rn = 512 → ∀ (H : Heap) (locs : List Loc) (ls : Array Slot), Wd D cc (MW cc ad (LX12_takeBack_54_S S k)) A s.heap H locs s → lv_has ls 2 [(0, .ref (ad 0)), (1, .int (nI k))] → W p l e (rmD 0) s m args below meth c H locs 0 0 Q (F0 m 54 ls []) := by
            intro rn
            induction rn with
            | zero =>
              intro k hk H locs ls hW hl
              obtain rfl : 512 = k := by omega
              refine lv_iload_n hx hb dX12_takeBack_54 rfl (lv_at hl 1 rfl) ?_
              refine lv_sipush (v := 512) hx hb dX12_takeBack_55 (by decide) ?_
              refine q_icmp_ge_n (tgt := 79) hx hb (a := 512) (b := 512) rfl rfl (by omega) (by omega) dX12_takeBack_58 (by decide) (fun c_58 => ?_) (fun c_58 => by exfalso; omega)
              exact hend _ _ _ _ _ (by unfold sX12_takeBack_S; rfl) hW dX12_takeBack_79
            | succ rn ih =>
              intro k hk H locs ls hW hl
              have hkN : k < 512 := by omega
              refine lv_iload_n hx hb dX12_takeBack_54 rfl (lv_at hl 1 rfl) ?_
              refine lv_sipush (v := 512) hx hb dX12_takeBack_55 (by decide) ?_
              refine q_icmp_ge_n (tgt := 79) hx hb (a := k) (b := 512) rfl rfl (by omega) (by omega) dX12_takeBack_58 (by decide) (fun c_58 => by exfalso; omega) (fun c_58 => ?_)
              refine lv_aload_n hx hb dX12_takeBack_61 rfl (lv_at hl 0 rfl) ?_
              refine q_get hC hW kX12_53 0 (Mg0 cc ad (LX12_takeBack_54_S S k)) (v := .ref (ad 15)) rfl dX12_takeBack_62 ?_
              refine lv_iload_n hx hb dX12_takeBack_65 rfl (lv_at hl 1 rfl) ?_
              refine lv_aload_n hx hb dX12_takeBack_66 rfl (lv_at hl 0 rfl) ?_
              refine q_get hC hW kX12_56 0 (Mg0 cc ad (LX12_takeBack_54_S S k)) (v := .ref (ad 16)) rfl dX12_takeBack_67 ?_
              refine lv_iload_n hx hb dX12_takeBack_70 rfl (lv_at hl 1 rfl) ?_
              refine q_lald hC hW 16 (Mg16 cc ad (LX12_takeBack_54_S S k)) (v := ((LX12_takeBack_54_S S k).2 16 k)) k rfl (by omega) (by decide) rfl dX12_takeBack_71 ?_
              refine q_last hC hW 15 (Mg15 cc ad (LX12_takeBack_54_S S k)) k rfl (by omega) (by decide) (Ms15 cc ad (LX12_takeBack_54_S S k) k ((LX12_takeBack_54_S S k).2 16 k)) dX12_takeBack_72 (fun H locs hW => ?_)
              refine lv_iinc (v := (nI (k + 1))) (lv' := [(1, .int (nI (k + 1))), (0, .ref (ad 0))]) hx hb dX12_takeBack_73 hl (k := 1) rfl (nq_inc k 1) (by decide) rfl (fun ls hl => ?_)
              refine lv_goto (tgt := 54) hx hb dX12_takeBack_76 (by decide) ?_
              exact ih (k + 1) (by omega) _ _ _ (by simp only [LX12_takeBack_54_S]; exact hW) (lv_sub hl [1, 0] rfl)
          exact loop3 512 0 (by omega) _ _ _ hW (lv_sub hl [1, 0] rfl)
        | succ rn ih =>
          intro k hk H locs ls hW hl
          have hkN : k < 90 := by omega
          refine lv_iload_n hx hb dX12_takeBack_28 rfl (lv_at hl 1 rfl) ?_
          refine lv_bipush (v := 90) hx hb dX12_takeBack_29 (by decide) ?_
          refine q_icmp_ge_n (tgt := 52) hx hb (a := k) (b := 90) rfl rfl (by omega) (by omega) dX12_takeBack_31 (by decide) (fun c_31 => by exfalso; omega) (fun c_31 => ?_)
          refine lv_aload_n hx hb dX12_takeBack_34 rfl (lv_at hl 0 rfl) ?_
          refine q_get hC hW kX12_47 0 (Mg0 cc ad (LX12_takeBack_28_S S k)) (v := .ref (ad 13)) rfl dX12_takeBack_35 ?_
          refine lv_iload_n hx hb dX12_takeBack_38 rfl (lv_at hl 1 rfl) ?_
          refine lv_aload_n hx hb dX12_takeBack_39 rfl (lv_at hl 0 rfl) ?_
          refine q_get hC hW kX12_50 0 (Mg0 cc ad (LX12_takeBack_28_S S k)) (v := .ref (ad 14)) rfl dX12_takeBack_40 ?_
          refine lv_iload_n hx hb dX12_takeBack_43 rfl (lv_at hl 1 rfl) ?_
          refine q_lald hC hW 14 (Mg14 cc ad (LX12_takeBack_28_S S k)) (v := ((LX12_takeBack_28_S S k).2 14 k)) k rfl (by omega) (by decide) rfl dX12_takeBack_44 ?_
          refine q_last hC hW 13 (Mg13 cc ad (LX12_takeBack_28_S S k)) k rfl (by omega) (by decide) (Ms13 cc ad (LX12_takeBack_28_S S k) k ((LX12_takeBack_28_S S k).2 14 k)) dX12_takeBack_45 (fun H locs hW => ?_)
          refine lv_iinc (v := (nI (k + 1))) (lv' := [(1, .int (nI (k + 1))), (0, .ref (ad 0))]) hx hb dX12_takeBack_46 hl (k := 1) rfl (nq_inc k 1) (by decide) rfl (fun ls hl => ?_)
          refine lv_goto (tgt := 28) hx hb dX12_takeBack_49 (by decide) ?_
          exact ih (k + 1) (by omega) _ _ _ (by simp only [LX12_takeBack_28_S]; exact hW) (lv_sub hl [1, 0] rfl)
      exact loop2 90 0 (by omega) _ _ _ hW (lv_sub hl [1, 0] rfl)
    | succ rn ih =>
      intro k hk H locs ls hW hl
      have hkN : k < 64 := by omega
      refine lv_iload_n hx hb dX12_takeBack_2 rfl (lv_at hl 1 rfl) ?_
      refine lv_bipush (v := 64) hx hb dX12_takeBack_3 (by decide) ?_
      refine q_icmp_ge_n (tgt := 26) hx hb (a := k) (b := 64) rfl rfl (by omega) (by omega) dX12_takeBack_5 (by decide) (fun c_5 => by exfalso; omega) (fun c_5 => ?_)
      refine lv_aload_n hx hb dX12_takeBack_8 rfl (lv_at hl 0 rfl) ?_
      refine q_get hC hW kX12_41 0 (Mg0 cc ad (LX12_takeBack_2_S S k)) (v := .ref (ad 11)) rfl dX12_takeBack_9 ?_
      refine lv_iload_n hx hb dX12_takeBack_12 rfl (lv_at hl 1 rfl) ?_
      refine lv_aload_n hx hb dX12_takeBack_13 rfl (lv_at hl 0 rfl) ?_
      refine q_get hC hW kX12_44 0 (Mg0 cc ad (LX12_takeBack_2_S S k)) (v := .ref (ad 12)) rfl dX12_takeBack_14 ?_
      refine lv_iload_n hx hb dX12_takeBack_17 rfl (lv_at hl 1 rfl) ?_
      refine q_lald hC hW 12 (Mg12 cc ad (LX12_takeBack_2_S S k)) (v := ((LX12_takeBack_2_S S k).2 12 k)) k rfl (by omega) (by decide) rfl dX12_takeBack_18 ?_
      refine q_last hC hW 11 (Mg11 cc ad (LX12_takeBack_2_S S k)) k rfl (by omega) (by decide) (Ms11 cc ad (LX12_takeBack_2_S S k) k ((LX12_takeBack_2_S S k).2 12 k)) dX12_takeBack_19 (fun H locs hW => ?_)
      refine lv_iinc (v := (nI (k + 1))) (lv' := [(1, .int (nI (k + 1))), (0, .ref (ad 0))]) hx hb dX12_takeBack_20 hl (k := 1) rfl (nq_inc k 1) (by decide) rfl (fun ls hl => ?_)
      refine lv_goto (tgt := 2) hx hb dX12_takeBack_23 (by decide) ?_
      exact ih (k + 1) (by omega) _ _ _ (by simp only [LX12_takeBack_2_S]; exact hW) (lv_sub hl [1, 0] rfl)
  exact loop1 64 0 (by omega) _ _ _ hW (lv_sub hl [1, 0] rfl)
