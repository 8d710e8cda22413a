theorem inv_X3_unwind (S : St) (hI : Inv S) : Inv (sX3_unwind_S S) := by
  unfold sX3_unwind_S
  split
  · split
    · exact inv_X2_add (sI (sJ S 0 0 _) 0 2 2) _ _ _ hI
    · split
      · have h1 := inv_X2_add (sJ S 0 0 (S.2 0 0 - S.2 2 0)) (S.1 0 1) 0 0 hI
        have m1 := m_X2_add (sJ S 0 0 (S.2 0 0 - S.2 2 0)) (S.1 0 1) 0 0 (cO S) (cC S)
        have q1 := q_X2_add (sJ S 0 0 (S.2 0 0 - S.2 2 0)) (S.1 0 1) 0 0 (cO S) (cC S)
        generalize hB : sX2_add_S (sJ S 0 0 (S.2 0 0 - S.2 2 0)) (S.1 0 1) 0 0 (cO S) (cC S) = B at m1 q1 ⊢
        have h1 : Inv B := by rw [← hB]; exact h1
        have em : cM S = cM B := by unfold cM; rw [m1]; rfl
        have eq : cQ S = cQ B := by unfold cQ; rw [q1]; rfl
        have h2 := inv_X5_add B (B.2 5 0 + B.2 0 0) h1
        have q2 := q_X5_add B (B.2 5 0 + B.2 0 0) (cM B)
        have eq2 : cQ B = cQ (sX5_add_S B (B.2 5 0 + B.2 0 0) (cM B)) := by unfold cQ; rw [q2]
        rw [em, eq, eq2]
        exact inv_X9_takeNext _ h2
      · exact inv_X3_breakWeb (sJ S 0 0 _) _ hI
  · exact hI
theorem inv_X3_wind (S : St) (hI : Inv S) : Inv (sX3_wind_S S) := by
  unfold sX3_wind_S
  have h := inv_X6_takes S (S.2 2 (cN S)) hI
  split
  · exact h
  · exact inv_X2_add _ _ _ _ h
theorem invL_control (S : St) (k : Nat) (hI : Inv S) : Inv (LX3_control_2_S S k) := by
  induction k with
  | zero => exact hI
  | succ k ih =>
    unfold LX3_control_2_S
    repeat' split
    all_goals exact ih
theorem inv_X3_control (S : St) (hI : Inv S) : Inv (sX3_control_S S) := invL_control S (cN S) hI
theorem inv_X3_countSlack (S : St) (i : Nat) (x : Int64) (hI : Inv S) : Inv (sX3_countSlack_S S i x) := by
  unfold sX3_countSlack_S
  have h (v : Int32) : Inv (sI S 7 i v) := hI
  repeat' split
  all_goals first | exact hI | exact inv_X2_add (sI S 7 i _) _ _ _ hI
theorem n_X3_countSlack (S : St) (i : Nat) (x : Int64) : (sX3_countSlack_S S i x).1 0 0 = S.1 0 0 := by
  unfold sX3_countSlack_S
  repeat' split
  all_goals first | rfl | exact n_X2_add (sI S 7 i _) _ _ _ _ _
theorem m_X3_countSlack (S : St) (i : Nat) (x : Int64) : (sX3_countSlack_S S i x).1 0 16 = S.1 0 16 := by
  unfold sX3_countSlack_S
  repeat' split
  all_goals first | rfl | exact m_X2_add (sI S 7 i _) _ _ _ _ _
def LX3_inspect_17_S (S : St)  : Nat → St
  | 0 => (sX5_dropUpTo_S S (sX3_placeAtRoller S (cN S) (cN S)) (cM S))
  | k + 1 => (if (sX8_tensionAt (LX3_inspect_17_S S k) k ((LX3_inspect_17_S S k).1 0 4)) ≤ (sX10_strengthWith (sX3_countSlack_S (sJ (LX3_inspect_17_S S k) 4 k (sJ9_max_f86c9 ((LX3_inspect_17_S S k).2 4 k) (sX8_tensionAt (LX3_inspect_17_S S k) k ((LX3_inspect_17_S S k).1 0 4)))) k (sX8_tensionAt (LX3_inspect_17_S S k) k ((LX3_inspect_17_S S k).1 0 4))) (sX3_marksIn (sX3_countSlack_S (sJ (LX3_inspect_17_S S k) 4 k (sJ9_max_f86c9 ((LX3_inspect_17_S S k).2 4 k) (sX8_tensionAt (LX3_inspect_17_S S k) k ((LX3_inspect_17_S S k).1 0 4)))) k (sX8_tensionAt (LX3_inspect_17_S S k) k ((LX3_inspect_17_S S k).1 0 4))) k (cN S) (cM (LX3_inspect_17_S S k)))) then (sX3_countSlack_S (sJ (LX3_inspect_17_S S k) 4 k (sJ9_max_f86c9 ((LX3_inspect_17_S S k).2 4 k) (sX8_tensionAt (LX3_inspect_17_S S k) k ((LX3_inspect_17_S S k).1 0 4)))) k (sX8_tensionAt (LX3_inspect_17_S S k) k ((LX3_inspect_17_S S k).1 0 4))) else (if ((sX3_countSlack_S (sJ (LX3_inspect_17_S S k) 4 k (sJ9_max_f86c9 ((LX3_inspect_17_S S k).2 4 k) (sX8_tensionAt (LX3_inspect_17_S S k) k ((LX3_inspect_17_S S k).1 0 4)))) k (sX8_tensionAt (LX3_inspect_17_S S k) k ((LX3_inspect_17_S S k).1 0 4))).1 0 2) = 1 then (sX3_countSlack_S (sJ (LX3_inspect_17_S S k) 4 k (sJ9_max_f86c9 ((LX3_inspect_17_S S k).2 4 k) (sX8_tensionAt (LX3_inspect_17_S S k) k ((LX3_inspect_17_S S k).1 0 4)))) k (sX8_tensionAt (LX3_inspect_17_S S k) k ((LX3_inspect_17_S S k).1 0 4))) else (sX3_breakWeb_S (sX3_countSlack_S (sJ (LX3_inspect_17_S S k) 4 k (sJ9_max_f86c9 ((LX3_inspect_17_S S k).2 4 k) (sX8_tensionAt (LX3_inspect_17_S S k) k ((LX3_inspect_17_S S k).1 0 4)))) k (sX8_tensionAt (LX3_inspect_17_S S k) k ((LX3_inspect_17_S S k).1 0 4))) (nI k))))
theorem nL_inspect (S : St) (k : Nat) : (LX3_inspect_17_S S k).1 0 0 = S.1 0 0 := by
  induction k with
  | zero => rfl
  | succ k ih =>
    unfold LX3_inspect_17_S
    repeat' split
    all_goals first | exact (n_X3_countSlack _ _ _).trans ih | exact (n_X3_breakWeb _ _).trans ((n_X3_countSlack _ _ _).trans ih)
theorem invL_inspect (S : St) (k : Nat) (hI : Inv S) : Inv (LX3_inspect_17_S S k) := by
  induction k with
  | zero => exact inv_X5_dropUpTo S _ hI
  | succ k ih =>
    have h1 := inv_X3_countSlack (sJ (LX3_inspect_17_S S k) 4 k (sJ9_max_f86c9 ((LX3_inspect_17_S S k).2 4 k) (sX8_tensionAt (LX3_inspect_17_S S k) k ((LX3_inspect_17_S S k).1 0 4)))) k (sX8_tensionAt (LX3_inspect_17_S S k) k ((LX3_inspect_17_S S k).1 0 4)) ih
    unfold LX3_inspect_17_S
    repeat' split
    all_goals first | exact h1 | exact inv_X3_breakWeb _ _ h1
def sX3_inspect_S (S : St)  : St := (LX3_inspect_17_S S (cN S))
set_option maxHeartbeats 4000000 in
set_option maxRecDepth 100000 in
theorem c_X3_inspect (l : Launch) (D : va_G) (cc : Nat → ClassId) (ad : Nat → Nat) (S : St) (hI : Inv S) : CtV l D cc yX3_inspect cX3_inspect 4 4 [.ref (ad 0)] (LW cc ad S) (LW cc ad (sX3_inspect_S S )) := by
  refine CtV.of (plainFor_of_name (by decide +kernel)) (Nat.le_of_ble_eq_true rfl) ?_
  intro p e s m args below meth c A Q hC hW hend ls hl
  obtain ⟨⟨hx, hb, hml, hown, hts⟩, hNW⟩ := id hC
  have hl : lv_has ls 4 [(0, .ref (ad 0))] := hl
  obtain ⟨⟨-, hb1_hI, hb2_hI⟩, ⟨-, hq_hI⟩, ⟨-, hm_hI⟩, ⟨-, ho_hI⟩, ⟨-, hc_hI⟩⟩ := id hI
  refine lv_aload_n hx hb dX3_inspect_0 rfl (lv_at hl 0 rfl) ?_
  refine q_get hC hW kX3_42 0 (Lg0 cc ad S) (v := .ref (ad 6)) rfl dX3_inspect_1 ?_
  refine lv_aload_n hx hb dX3_inspect_4 rfl (lv_at hl 0 rfl) ?_
  refine lv_aload_n hx hb dX3_inspect_5 rfl (lv_at hl 0 rfl) ?_
  refine q_get hC hW kX3_86 0 (Lg0 cc ad S) (v := .int (nI (cN S))) (congrArg (fun z => some (Value.int z)) hI.1.1) dX3_inspect_6 ?_
  refine q_VL hC hW (c_X3_placeAtRoller l D cc ad S (cN S) (cN S) hI.1.1 (by omega) (by omega)) mX3_162 0 (Lg0 cc ad S) rfl (by decide) rfl hl.1 rfl (Nat.le_of_ble_eq_true rfl) (by decide) dX3_inspect_9 (fun H locs hW => ?_)
  refine q_VV hC hW (c_X5_dropUpTo l D cc ad S (sX3_placeAtRoller S (cN S) (cN S)) (cM S) hI.2.2.1.1 (by omega)) mX3_271 6 (Lg6 cc ad S) rfl (by decide) rfl hl.1 rfl (Nat.le_of_ble_eq_true rfl) (by decide) dX3_inspect_12 (fun H locs hW => ?_)
  have hI_1 : Inv (sX5_dropUpTo_S S (sX3_placeAtRoller S (cN S) (cN S)) (cM S)) := inv_X5_dropUpTo S (sX3_placeAtRoller S (cN S) (cN S)) hI
  obtain ⟨⟨-, -, -⟩, ⟨-, hq_hI_1⟩, ⟨-, hm_hI_1⟩, ⟨-, ho_hI_1⟩, ⟨-, hc_hI_1⟩⟩ := id hI_1
  refine lv_iconst (v := 0) hx hb dX3_inspect_15 (by decide) ?_
  refine lv_istore_n (lv' := [(1, .int 0), (0, .ref (ad 0))]) hx hb dX3_inspect_16 rfl hl (by decide) rfl (fun ls hl => ?_)
  have loop1 : ∀ (rn k : Nat), k + rn = (cN S) → ∀ (H : Heap) (locs : List Loc) (ls : Array Slot), Wd D cc (LW cc ad (LX3_inspect_17_S S k)) A s.heap H locs s → lv_has ls 4 [(0, .ref (ad 0)), (1, .int (nI k))] → W p l e (rmD 4) s m args below meth c H locs 0 0 Q (F0 m 17 ls []) := by
    intro rn
    induction rn with
    | zero =>
      intro k hk H locs ls hW hl
      obtain rfl : (cN S) = k := by omega
      refine lv_iload_n hx hb dX3_inspect_17 rfl (lv_at hl 1 rfl) ?_
      refine lv_aload_n hx hb dX3_inspect_18 rfl (lv_at hl 0 rfl) ?_
      refine q_get hC hW kX3_86 0 (Lg0 cc ad (LX3_inspect_17_S S (cN S))) (v := .int (nI (cN S))) (congrArg (fun z => some (Value.int z)) ((nL_inspect S (cN S)).trans ((n_X5_dropUpTo S (sX3_placeAtRoller S (cN S) (cN S)) (cM S)).trans hI.1.1))) dX3_inspect_19 ?_
      refine q_icmp_ge_n (tgt := 106) hx hb (a := (cN S)) (b := (cN S)) rfl rfl (by omega) (by omega) dX3_inspect_22 (by decide) (fun c_22 => ?_) (fun c_22 => by exfalso; omega)
      exact hend _ _ _ _ _ (by unfold sX3_inspect_S; rfl) hW dX3_inspect_106
    | succ rn ih =>
      intro k hk H locs ls hW hl
      have hkN : k < (cN S) := by omega
      have hI_2 : Inv (LX3_inspect_17_S S k) := invL_inspect S k hI
      obtain ⟨⟨-, -, -⟩, ⟨-, hq_hI_2⟩, ⟨-, hm_hI_2⟩, ⟨-, ho_hI_2⟩, ⟨-, hc_hI_2⟩⟩ := id hI_2
      refine lv_iload_n hx hb dX3_inspect_17 rfl (lv_at hl 1 rfl) ?_
      refine lv_aload_n hx hb dX3_inspect_18 rfl (lv_at hl 0 rfl) ?_
      refine q_get hC hW kX3_86 0 (Lg0 cc ad (LX3_inspect_17_S S k)) (v := .int (nI (cN S))) (congrArg (fun z => some (Value.int z)) ((nL_inspect S k).trans ((n_X5_dropUpTo S (sX3_placeAtRoller S (cN S) (cN S)) (cM S)).trans hI.1.1))) dX3_inspect_19 ?_
      refine q_icmp_ge_n (tgt := 106) hx hb (a := k) (b := (cN S)) rfl rfl (by omega) (by omega) dX3_inspect_22 (by decide) (fun c_22 => by exfalso; omega) (fun c_22 => ?_)
      refine lv_aload_n hx hb dX3_inspect_25 rfl (lv_at hl 0 rfl) ?_
      refine q_get hC hW kX3_55 0 (Lg0 cc ad (LX3_inspect_17_S S k)) (v := .ref (ad 12)) rfl dX3_inspect_26 ?_
      refine lv_iload_n hx hb dX3_inspect_29 rfl (lv_at hl 1 rfl) ?_
      refine q_aald hC hW 12 3 (Lg12 cc ad (LX3_inspect_17_S S k)) rfl (v := ad (k + 15)) k rfl (by omega) (by decide) rfl dX3_inspect_30 ?_
      refine lv_aload_n hx hb dX3_inspect_31 rfl (lv_at hl 0 rfl) ?_
      refine q_get hC hW kX3_12 0 (Lg0 cc ad (LX3_inspect_17_S S k)) (v := .ref (ad 1)) rfl dX3_inspect_32 ?_
      refine q_get hC hW kX3_204 1 (Lg1 cc ad (LX3_inspect_17_S S k)) (v := .int ((LX3_inspect_17_S S k).1 0 4)) rfl dX3_inspect_35 ?_
      refine q_VL hC hW (c_X8_tensionAt l D cc ad (LX3_inspect_17_S S k) k ((LX3_inspect_17_S S k).1 0 4) (by omega)) mX3_243 (k + 15) (Lg_f8 cc ad (LX3_inspect_17_S S k) k (by omega)) rfl (by decide) rfl hl.1 rfl (Nat.le_of_ble_eq_true rfl) (by decide) dX3_inspect_38 (fun H locs hW => ?_)
      refine lv_lstore_n (lv' := [(2, .long (sX8_tensionAt (LX3_inspect_17_S S k) k ((LX3_inspect_17_S S k).1 0 4))), (0, .ref (ad 0)), (1, .int (nI k))]) hx hb dX3_inspect_41 rfl hl (by decide) rfl (fun ls hl => ?_)
      refine lv_aload_n hx hb dX3_inspect_42 rfl (lv_at hl 1 rfl) ?_
      refine q_get hC hW kX3_55 0 (Lg0 cc ad (LX3_inspect_17_S S k)) (v := .ref (ad 12)) rfl dX3_inspect_43 ?_
      refine lv_iload_n hx hb dX3_inspect_46 rfl (lv_at hl 2 rfl) ?_
      refine q_aald hC hW 12 3 (Lg12 cc ad (LX3_inspect_17_S S k)) rfl (v := ad (k + 15)) k rfl (by omega) (by decide) rfl dX3_inspect_47 ?_
      refine lv_aload_n hx hb dX3_inspect_48 rfl (lv_at hl 1 rfl) ?_
      refine q_get hC hW kX3_55 0 (Lg0 cc ad (LX3_inspect_17_S S k)) (v := .ref (ad 12)) rfl dX3_inspect_49 ?_
      refine lv_iload_n hx hb dX3_inspect_52 rfl (lv_at hl 2 rfl) ?_
      refine q_aald hC hW 12 3 (Lg12 cc ad (LX3_inspect_17_S S k)) rfl (v := ad (k + 15)) k rfl (by omega) (by decide) rfl dX3_inspect_53 ?_
      refine q_get hC hW kX3_274 (k + 15) (Lg_f8 cc ad (LX3_inspect_17_S S k) k (by omega)) (v := .long ((LX3_inspect_17_S S k).2 4 k)) rfl dX3_inspect_54 ?_
      refine lv_lload_n hx hb dX3_inspect_57 rfl (lv_at hl 0 rfl) ?_
      refine q_SL hC hW (c_J9_max_f86c9 l D cc _ ((LX3_inspect_17_S S k).2 4 k) (sX8_tensionAt (LX3_inspect_17_S S k) k ((LX3_inspect_17_S S k).1 0 4))) mX3_149 (by decide) rfl hl.1 rfl (Nat.le_of_ble_eq_true rfl) (by decide) dX3_inspect_58 (fun H locs hW => ?_)
      refine q_putL hC hW kX3_274 (k + 15) (Lg_f8 cc ad (LX3_inspect_17_S S k) k (by omega)) (Ls_f8_5 cc ad (LX3_inspect_17_S S k) k (by omega) (sJ9_max_f86c9 ((LX3_inspect_17_S S k).2 4 k) (sX8_tensionAt (LX3_inspect_17_S S k) k ((LX3_inspect_17_S S k).1 0 4)))) (Nat.le_of_ble_eq_true rfl) dX3_inspect_61 (fun H locs hW => ?_)
      refine lv_aload_n hx hb dX3_inspect_64 rfl (lv_at hl 1 rfl) ?_
      refine lv_iload_n hx hb dX3_inspect_65 rfl (lv_at hl 2 rfl) ?_
      refine lv_lload_n hx hb dX3_inspect_66 rfl (lv_at hl 0 rfl) ?_
      refine q_VV hC hW (c_X3_countSlack l D cc ad (sJ (LX3_inspect_17_S S k) 4 k (sJ9_max_f86c9 ((LX3_inspect_17_S S k).2 4 k) (sX8_tensionAt (LX3_inspect_17_S S k) k ((LX3_inspect_17_S S k).1 0 4)))) k (sX8_tensionAt (LX3_inspect_17_S S k) k ((LX3_inspect_17_S S k).1 0 4)) hI_2 (by omega)) mX3_277 0 (Lg0 cc ad (sJ (LX3_inspect_17_S S k) 4 k (sJ9_max_f86c9 ((LX3_inspect_17_S S k).2 4 k) (sX8_tensionAt (LX3_inspect_17_S S k) k ((LX3_inspect_17_S S k).1 0 4))))) rfl (by decide) rfl hl.1 rfl (Nat.le_of_ble_eq_true rfl) (by decide) dX3_inspect_67 (fun H locs hW => ?_)
      have hI_3 : Inv (sX3_countSlack_S (sJ (LX3_inspect_17_S S k) 4 k (sJ9_max_f86c9 ((LX3_inspect_17_S S k).2 4 k) (sX8_tensionAt (LX3_inspect_17_S S k) k ((LX3_inspect_17_S S k).1 0 4)))) k (sX8_tensionAt (LX3_inspect_17_S S k) k ((LX3_inspect_17_S S k).1 0 4))) := inv_X3_countSlack (sJ (LX3_inspect_17_S S k) 4 k (sJ9_max_f86c9 ((LX3_inspect_17_S S k).2 4 k) (sX8_tensionAt (LX3_inspect_17_S S k) k ((LX3_inspect_17_S S k).1 0 4)))) k (sX8_tensionAt (LX3_inspect_17_S S k) k ((LX3_inspect_17_S S k).1 0 4)) hI_2
      obtain ⟨⟨-, -, -⟩, ⟨-, hq_hI_3⟩, ⟨-, hm_hI_3⟩, ⟨-, ho_hI_3⟩, ⟨-, hc_hI_3⟩⟩ := id hI_3
      refine lv_lload_n hx hb dX3_inspect_70 rfl (lv_at hl 0 rfl) ?_
      refine lv_aload_n hx hb dX3_inspect_71 rfl (lv_at hl 1 rfl) ?_
      refine q_get hC hW kX3_12 0 (Lg0 cc ad (sX3_countSlack_S (sJ (LX3_inspect_17_S S k) 4 k (sJ9_max_f86c9 ((LX3_inspect_17_S S k).2 4 k) (sX8_tensionAt (LX3_inspect_17_S S k) k ((LX3_inspect_17_S S k).1 0 4)))) k (sX8_tensionAt (LX3_inspect_17_S S k) k ((LX3_inspect_17_S S k).1 0 4)))) (v := .ref (ad 1)) rfl dX3_inspect_72 ?_
      refine lv_aload_n hx hb dX3_inspect_75 rfl (lv_at hl 1 rfl) ?_
      refine lv_iload_n hx hb dX3_inspect_76 rfl (lv_at hl 2 rfl) ?_
      refine q_VI hC hW (c_X3_marksIn l D cc ad (sX3_countSlack_S (sJ (LX3_inspect_17_S S k) 4 k (sJ9_max_f86c9 ((LX3_inspect_17_S S k).2 4 k) (sX8_tensionAt (LX3_inspect_17_S S k) k ((LX3_inspect_17_S S k).1 0 4)))) k (sX8_tensionAt (LX3_inspect_17_S S k) k ((LX3_inspect_17_S S k).1 0 4))) k (cN S) (cM (LX3_inspect_17_S S k)) ((n_X3_countSlack (sJ (LX3_inspect_17_S S k) 4 k (sJ9_max_f86c9 ((LX3_inspect_17_S S k).2 4 k) (sX8_tensionAt (LX3_inspect_17_S S k) k ((LX3_inspect_17_S S k).1 0 4)))) k (sX8_tensionAt (LX3_inspect_17_S S k) k ((LX3_inspect_17_S S k).1 0 4))).trans ((nL_inspect S k).trans ((n_X5_dropUpTo S (sX3_placeAtRoller S (cN S) (cN S)) (cM S)).trans hI.1.1))) ((m_X3_countSlack (sJ (LX3_inspect_17_S S k) 4 k (sJ9_max_f86c9 ((LX3_inspect_17_S S k).2 4 k) (sX8_tensionAt (LX3_inspect_17_S S k) k ((LX3_inspect_17_S S k).1 0 4)))) k (sX8_tensionAt (LX3_inspect_17_S S k) k ((LX3_inspect_17_S S k).1 0 4))).trans hI_2.2.2.1.1) (by omega) (by omega) (by omega)) mX3_281 0 (Lg0 cc ad (sX3_countSlack_S (sJ (LX3_inspect_17_S S k) 4 k (sJ9_max_f86c9 ((LX3_inspect_17_S S k).2 4 k) (sX8_tensionAt (LX3_inspect_17_S S k) k ((LX3_inspect_17_S S k).1 0 4)))) k (sX8_tensionAt (LX3_inspect_17_S S k) k ((LX3_inspect_17_S S k).1 0 4)))) rfl (by decide) rfl hl.1 rfl (Nat.le_of_ble_eq_true rfl) (by decide) dX3_inspect_77 (fun H locs hW => ?_)
      refine q_VL hC hW (c_X10_strengthWith l D cc ad (sX3_countSlack_S (sJ (LX3_inspect_17_S S k) 4 k (sJ9_max_f86c9 ((LX3_inspect_17_S S k).2 4 k) (sX8_tensionAt (LX3_inspect_17_S S k) k ((LX3_inspect_17_S S k).1 0 4)))) k (sX8_tensionAt (LX3_inspect_17_S S k) k ((LX3_inspect_17_S S k).1 0 4))) (sX3_marksIn (sX3_countSlack_S (sJ (LX3_inspect_17_S S k) 4 k (sJ9_max_f86c9 ((LX3_inspect_17_S S k).2 4 k) (sX8_tensionAt (LX3_inspect_17_S S k) k ((LX3_inspect_17_S S k).1 0 4)))) k (sX8_tensionAt (LX3_inspect_17_S S k) k ((LX3_inspect_17_S S k).1 0 4))) k (cN S) (cM (LX3_inspect_17_S S k)))) mX3_284 1 (Lg1 cc ad (sX3_countSlack_S (sJ (LX3_inspect_17_S S k) 4 k (sJ9_max_f86c9 ((LX3_inspect_17_S S k).2 4 k) (sX8_tensionAt (LX3_inspect_17_S S k) k ((LX3_inspect_17_S S k).1 0 4)))) k (sX8_tensionAt (LX3_inspect_17_S S k) k ((LX3_inspect_17_S S k).1 0 4)))) rfl (by decide) rfl hl.1 rfl (Nat.le_of_ble_eq_true rfl) (by decide) dX3_inspect_80 (fun H locs hW => ?_)
      refine q_jle (tgt := 100) hC dX3_inspect_83 dX3_inspect_84 (by decide) (fun c_83 => ?_) (fun c_83 => ?_)
      · skip
        refine lv_iinc (v := (nI (k + 1))) (lv' := [(1, .int (nI (k + 1))), (2, .long (sX8_tensionAt (LX3_inspect_17_S S k) k ((LX3_inspect_17_S S k).1 0 4))), (0, .ref (ad 0))]) hx hb dX3_inspect_100 hl (k := 2) rfl (nq_inc k 1) (by decide) rfl (fun ls hl => ?_)
        refine lv_goto (tgt := 17) hx hb dX3_inspect_103 (by decide) ?_
        exact ih (k + 1) (by omega) _ _ _ (by simp only [LX3_inspect_17_S, if_pos c_83]; exact hW) (lv_sub hl [2, 0] rfl)
      · skip
        refine lv_aload_n hx hb dX3_inspect_87 rfl (lv_at hl 1 rfl) ?_
        refine q_get hC hW kX3_97 0 (Lg0 cc ad (sX3_countSlack_S (sJ (LX3_inspect_17_S S k) 4 k (sJ9_max_f86c9 ((LX3_inspect_17_S S k).2 4 k) (sX8_tensionAt (LX3_inspect_17_S S k) k ((LX3_inspect_17_S S k).1 0 4)))) k (sX8_tensionAt (LX3_inspect_17_S S k) k ((LX3_inspect_17_S S k).1 0 4)))) (v := .int ((sX3_countSlack_S (sJ (LX3_inspect_17_S S k) 4 k (sJ9_max_f86c9 ((LX3_inspect_17_S S k).2 4 k) (sX8_tensionAt (LX3_inspect_17_S S k) k ((LX3_inspect_17_S S k).1 0 4)))) k (sX8_tensionAt (LX3_inspect_17_S S k) k ((LX3_inspect_17_S S k).1 0 4))).1 0 2)) rfl dX3_inspect_88 ?_
        refine lv_iconst (v := 1) hx hb dX3_inspect_91 (by decide) ?_
        refine lv_icmp_eq (tgt := 100) hx hb dX3_inspect_92 (by decide) (fun c_92 => ?_) (fun c_92 => ?_)
        · skip
          refine lv_iinc (v := (nI (k + 1))) (lv' := [(1, .int (nI (k + 1))), (2, .long (sX8_tensionAt (LX3_inspect_17_S S k) k ((LX3_inspect_17_S S k).1 0 4))), (0, .ref (ad 0))]) hx hb dX3_inspect_100 hl (k := 2) rfl (nq_inc k 1) (by decide) rfl (fun ls hl => ?_)
          refine lv_goto (tgt := 17) hx hb dX3_inspect_103 (by decide) ?_
          exact ih (k + 1) (by omega) _ _ _ (by simp only [LX3_inspect_17_S, if_neg c_83, if_pos c_92]; exact hW) (lv_sub hl [2, 0] rfl)
        · skip
          refine lv_aload_n hx hb dX3_inspect_95 rfl (lv_at hl 1 rfl) ?_
          refine lv_iload_n hx hb dX3_inspect_96 rfl (lv_at hl 2 rfl) ?_
          refine q_VV hC hW (c_X3_breakWeb l D cc ad (sX3_countSlack_S (sJ (LX3_inspect_17_S S k) 4 k (sJ9_max_f86c9 ((LX3_inspect_17_S S k).2 4 k) (sX8_tensionAt (LX3_inspect_17_S S k) k ((LX3_inspect_17_S S k).1 0 4)))) k (sX8_tensionAt (LX3_inspect_17_S S k) k ((LX3_inspect_17_S S k).1 0 4))) (nI k) hI_3) mX3_227 0 (Lg0 cc ad (sX3_countSlack_S (sJ (LX3_inspect_17_S S k) 4 k (sJ9_max_f86c9 ((LX3_inspect_17_S S k).2 4 k) (sX8_tensionAt (LX3_inspect_17_S S k) k ((LX3_inspect_17_S S k).1 0 4)))) k (sX8_tensionAt (LX3_inspect_17_S S k) k ((LX3_inspect_17_S S k).1 0 4)))) rfl (by decide) rfl hl.1 rfl (Nat.le_of_ble_eq_true rfl) (by decide) dX3_inspect_97 (fun H locs hW => ?_)
          have hI_4 : Inv (sX3_breakWeb_S (sX3_countSlack_S (sJ (LX3_inspect_17_S S k) 4 k (sJ9_max_f86c9 ((LX3_inspect_17_S S k).2 4 k) (sX8_tensionAt (LX3_inspect_17_S S k) k ((LX3_inspect_17_S S k).1 0 4)))) k (sX8_tensionAt (LX3_inspect_17_S S k) k ((LX3_inspect_17_S S k).1 0 4))) (nI k)) := inv_X3_breakWeb (sX3_countSlack_S (sJ (LX3_inspect_17_S S k) 4 k (sJ9_max_f86c9 ((LX3_inspect_17_S S k).2 4 k) (sX8_tensionAt (LX3_inspect_17_S S k) k ((LX3_inspect_17_S S k).1 0 4)))) k (sX8_tensionAt (LX3_inspect_17_S S k) k ((LX3_inspect_17_S S k).1 0 4))) (nI k) hI_3
          obtain ⟨⟨-, -, -⟩, ⟨-, hq_hI_4⟩, ⟨-, hm_hI_4⟩, ⟨-, ho_hI_4⟩, ⟨-, hc_hI_4⟩⟩ := id hI_4
          refine lv_iinc (v := (nI (k + 1))) (lv' := [(1, .int (nI (k + 1))), (2, .long (sX8_tensionAt (LX3_inspect_17_S S k) k ((LX3_inspect_17_S S k).1 0 4))), (0, .ref (ad 0))]) hx hb dX3_inspect_100 hl (k := 2) rfl (nq_inc k 1) (by decide) rfl (fun ls hl => ?_)
          refine lv_goto (tgt := 17) hx hb dX3_inspect_103 (by decide) ?_
          exact ih (k + 1) (by omega) _ _ _ (by simp only [LX3_inspect_17_S, if_neg c_83, if_neg c_92]; exact hW) (lv_sub hl [2, 0] rfl)
  exact loop1 (cN S) 0 (by omega) _ _ _ hW (lv_sub hl [1, 0] rfl)
theorem inv_X3_inspect (S : St) (hI : Inv S) : Inv (sX3_inspect_S S) := invL_inspect S (cN S) hI
def sX3_tick_S (S : St)  : St := (if (S.1 0 2) = 0 then (if ((sX3_wind_S (sX3_unwind_S (sX3_passWeb_S (sX1_approachWanted_S (sI S 0 1 ((S.1 0 1) + 1)) (sX9_isSplicePending (sI S 0 1 ((S.1 0 1) + 1)) (S.1 0 12)))))).1 0 8) ≤ 0 then (sX3_inspect_S (sX3_wind_S (sX3_unwind_S (sX3_passWeb_S (sX1_approachWanted_S (sI S 0 1 ((S.1 0 1) + 1)) (sX9_isSplicePending (sI S 0 1 ((S.1 0 1) + 1)) (S.1 0 12))))))) else (sX3_inspect_S (sX3_control_S (sX3_wind_S (sX3_unwind_S (sX3_passWeb_S (sX1_approachWanted_S (sI S 0 1 ((S.1 0 1) + 1)) (sX9_isSplicePending (sI S 0 1 ((S.1 0 1) + 1)) (S.1 0 12))))))))) else S)
set_option maxHeartbeats 4000000 in
set_option maxRecDepth 100000 in
theorem c_X3_tick (l : Launch) (D : va_G) (cc : Nat → ClassId) (ad : Nat → Nat) (S : St) (hI : Inv S) : CtV l D cc yX3_tick cX3_tick 1 5 [.ref (ad 0)] (LW cc ad S) (LW cc ad (sX3_tick_S S )) := by
  refine CtV.of (plainFor_of_name (by decide +kernel)) (Nat.le_of_ble_eq_true rfl) ?_
  intro p e s m args below meth c A Q hC hW hend ls hl
  obtain ⟨⟨hx, hb, hml, hown, hts⟩, hNW⟩ := id hC
  have hl : lv_has ls 1 [(0, .ref (ad 0))] := hl
  obtain ⟨⟨-, hb1_hI, hb2_hI⟩, ⟨-, hq_hI⟩, ⟨-, hm_hI⟩, ⟨-, ho_hI⟩, ⟨-, hc_hI⟩⟩ := id hI
  refine lv_aload_n hx hb dX3_tick_0 rfl (lv_at hl 0 rfl) ?_
  refine q_get hC hW kX3_97 0 (Lg0 cc ad S) (v := .int (S.1 0 2)) rfl dX3_tick_1 ?_
  refine lv_if_eq (tgt := 8) hx hb dX3_tick_4 (by decide) (fun c_4 => ?_) (fun c_4 => ?_)
  · skip
    refine lv_aload_n hx hb dX3_tick_8 rfl (lv_at hl 0 rfl) ?_
    refine lv_dup hx hb dX3_tick_9 rfl ?_
    refine q_get hC hW kX3_94 0 (Lg0 cc ad S) (v := .int (S.1 0 1)) rfl dX3_tick_10 ?_
    refine lv_iconst (v := 1) hx hb dX3_tick_13 (by decide) ?_
    refine lv_iadd hx hb dX3_tick_14 ?_
    refine q_putI hC hW kX3_94 0 (Lg0 cc ad S) (Ls0_10 cc ad S ((S.1 0 1) + 1)) (Nat.le_of_ble_eq_true rfl) dX3_tick_15 (fun H locs hW => ?_)
    refine lv_aload_n hx hb dX3_tick_18 rfl (lv_at hl 0 rfl) ?_
    refine q_get hC hW kX3_21 0 (Lg0 cc ad (sI S 0 1 ((S.1 0 1) + 1))) (v := .ref (ad 2)) rfl dX3_tick_19 ?_
    refine lv_aload_n hx hb dX3_tick_22 rfl (lv_at hl 0 rfl) ?_
    refine q_get hC hW kX3_28 0 (Lg0 cc ad (sI S 0 1 ((S.1 0 1) + 1))) (v := .ref (ad 3)) rfl dX3_tick_23 ?_
    refine lv_aload_n hx hb dX3_tick_26 rfl (lv_at hl 0 rfl) ?_
    refine q_get hC hW kX3_21 0 (Lg0 cc ad (sI S 0 1 ((S.1 0 1) + 1))) (v := .ref (ad 2)) rfl dX3_tick_27 ?_
    refine q_get hC hW kX3_176 2 (Lg2 cc ad (sI S 0 1 ((S.1 0 1) + 1))) (v := .int (S.1 0 12)) rfl dX3_tick_30 ?_
    refine q_VI hC hW (c_X9_isSplicePending l D cc ad (sI S 0 1 ((S.1 0 1) + 1)) (S.1 0 12)) mX3_179 3 (Lg3 cc ad (sI S 0 1 ((S.1 0 1) + 1))) rfl (by decide) rfl hl.1 rfl (Nat.le_of_ble_eq_true rfl) (by decide) dX3_tick_33 (fun H locs hW => ?_)
    refine q_VV hC hW (c_X1_approachWanted l D cc ad (sI S 0 1 ((S.1 0 1) + 1)) (sX9_isSplicePending (sI S 0 1 ((S.1 0 1) + 1)) (S.1 0 12))) mX3_182 2 (Lg2 cc ad (sI S 0 1 ((S.1 0 1) + 1))) rfl (by decide) rfl hl.1 rfl (Nat.le_of_ble_eq_true rfl) (by decide) dX3_tick_36 (fun H locs hW => ?_)
    have hI_1 : Inv (sX1_approachWanted_S (sI S 0 1 ((S.1 0 1) + 1)) (sX9_isSplicePending (sI S 0 1 ((S.1 0 1) + 1)) (S.1 0 12))) := inv_X1_approachWanted (sI S 0 1 ((S.1 0 1) + 1)) (sX9_isSplicePending (sI S 0 1 ((S.1 0 1) + 1)) (S.1 0 12)) hI
    obtain ⟨⟨-, -, -⟩, ⟨-, hq_hI_1⟩, ⟨-, hm_hI_1⟩, ⟨-, ho_hI_1⟩, ⟨-, hc_hI_1⟩⟩ := id hI_1
    refine lv_aload_n hx hb dX3_tick_39 rfl (lv_at hl 0 rfl) ?_
    refine q_VV hC hW (c_X3_passWeb l D cc ad (sX1_approachWanted_S (sI S 0 1 ((S.1 0 1) + 1)) (sX9_isSplicePending (sI S 0 1 ((S.1 0 1) + 1)) (S.1 0 12))) hI_1) mX3_186 0 (Lg0 cc ad (sX1_approachWanted_S (sI S 0 1 ((S.1 0 1) + 1)) (sX9_isSplicePending (sI S 0 1 ((S.1 0 1) + 1)) (S.1 0 12)))) rfl (by decide) rfl hl.1 rfl (Nat.le_of_ble_eq_true rfl) (by decide) dX3_tick_40 (fun H locs hW => ?_)
    have hI_2 : Inv (sX3_passWeb_S (sX1_approachWanted_S (sI S 0 1 ((S.1 0 1) + 1)) (sX9_isSplicePending (sI S 0 1 ((S.1 0 1) + 1)) (S.1 0 12)))) := inv_X3_passWeb (sX1_approachWanted_S (sI S 0 1 ((S.1 0 1) + 1)) (sX9_isSplicePending (sI S 0 1 ((S.1 0 1) + 1)) (S.1 0 12))) hI_1
    obtain ⟨⟨-, -, -⟩, ⟨-, hq_hI_2⟩, ⟨-, hm_hI_2⟩, ⟨-, ho_hI_2⟩, ⟨-, hc_hI_2⟩⟩ := id hI_2
    refine lv_aload_n hx hb dX3_tick_43 rfl (lv_at hl 0 rfl) ?_
    refine q_VV hC hW (c_X3_unwind l D cc ad (sX3_passWeb_S (sX1_approachWanted_S (sI S 0 1 ((S.1 0 1) + 1)) (sX9_isSplicePending (sI S 0 1 ((S.1 0 1) + 1)) (S.1 0 12)))) hI_2) mX3_189 0 (Lg0 cc ad (sX3_passWeb_S (sX1_approachWanted_S (sI S 0 1 ((S.1 0 1) + 1)) (sX9_isSplicePending (sI S 0 1 ((S.1 0 1) + 1)) (S.1 0 12))))) rfl (by decide) rfl hl.1 rfl (Nat.le_of_ble_eq_true rfl) (by decide) dX3_tick_44 (fun H locs hW => ?_)
    have hI_3 : Inv (sX3_unwind_S (sX3_passWeb_S (sX1_approachWanted_S (sI S 0 1 ((S.1 0 1) + 1)) (sX9_isSplicePending (sI S 0 1 ((S.1 0 1) + 1)) (S.1 0 12))))) := inv_X3_unwind (sX3_passWeb_S (sX1_approachWanted_S (sI S 0 1 ((S.1 0 1) + 1)) (sX9_isSplicePending (sI S 0 1 ((S.1 0 1) + 1)) (S.1 0 12)))) hI_2
    obtain ⟨⟨-, -, -⟩, ⟨-, hq_hI_3⟩, ⟨-, hm_hI_3⟩, ⟨-, ho_hI_3⟩, ⟨-, hc_hI_3⟩⟩ := id hI_3
    refine lv_aload_n hx hb dX3_tick_47 rfl (lv_at hl 0 rfl) ?_
    refine q_VV hC hW (c_X3_wind l D cc ad (sX3_unwind_S (sX3_passWeb_S (sX1_approachWanted_S (sI S 0 1 ((S.1 0 1) + 1)) (sX9_isSplicePending (sI S 0 1 ((S.1 0 1) + 1)) (S.1 0 12))))) hI_3) mX3_192 0 (Lg0 cc ad (sX3_unwind_S (sX3_passWeb_S (sX1_approachWanted_S (sI S 0 1 ((S.1 0 1) + 1)) (sX9_isSplicePending (sI S 0 1 ((S.1 0 1) + 1)) (S.1 0 12)))))) rfl (by decide) rfl hl.1 rfl (Nat.le_of_ble_eq_true rfl) (by decide) dX3_tick_48 (fun H locs hW => ?_)
    have hI_4 : Inv (sX3_wind_S (sX3_unwind_S (sX3_passWeb_S (sX1_approachWanted_S (sI S 0 1 ((S.1 0 1) + 1)) (sX9_isSplicePending (sI S 0 1 ((S.1 0 1) + 1)) (S.1 0 12)))))) := inv_X3_wind (sX3_unwind_S (sX3_passWeb_S (sX1_approachWanted_S (sI S 0 1 ((S.1 0 1) + 1)) (sX9_isSplicePending (sI S 0 1 ((S.1 0 1) + 1)) (S.1 0 12))))) hI_3
    obtain ⟨⟨-, -, -⟩, ⟨-, hq_hI_4⟩, ⟨-, hm_hI_4⟩, ⟨-, ho_hI_4⟩, ⟨-, hc_hI_4⟩⟩ := id hI_4
    refine lv_aload_n hx hb dX3_tick_51 rfl (lv_at hl 0 rfl) ?_
    refine q_get hC hW kX3_21 0 (Lg0 cc ad (sX3_wind_S (sX3_unwind_S (sX3_passWeb_S (sX1_approachWanted_S (sI S 0 1 ((S.1 0 1) + 1)) (sX9_isSplicePending (sI S 0 1 ((S.1 0 1) + 1)) (S.1 0 12))))))) (v := .ref (ad 2)) rfl dX3_tick_52 ?_
    refine q_get hC hW kX3_135 2 (Lg2 cc ad (sX3_wind_S (sX3_unwind_S (sX3_passWeb_S (sX1_approachWanted_S (sI S 0 1 ((S.1 0 1) + 1)) (sX9_isSplicePending (sI S 0 1 ((S.1 0 1) + 1)) (S.1 0 12))))))) (v := .int ((sX3_wind_S (sX3_unwind_S (sX3_passWeb_S (sX1_approachWanted_S (sI S 0 1 ((S.1 0 1) + 1)) (sX9_isSplicePending (sI S 0 1 ((S.1 0 1) + 1)) (S.1 0 12)))))).1 0 8)) rfl dX3_tick_55 ?_
    refine lv_if_le (tgt := 65) hx hb dX3_tick_58 (by decide) (fun c_58 => ?_) (fun c_58 => ?_)
    · skip
      refine lv_aload_n hx hb dX3_tick_65 rfl (lv_at hl 0 rfl) ?_
      refine q_VV hC hW (c_X3_inspect l D cc ad (sX3_wind_S (sX3_unwind_S (sX3_passWeb_S (sX1_approachWanted_S (sI S 0 1 ((S.1 0 1) + 1)) (sX9_isSplicePending (sI S 0 1 ((S.1 0 1) + 1)) (S.1 0 12)))))) hI_4) mX3_198 0 (Lg0 cc ad (sX3_wind_S (sX3_unwind_S (sX3_passWeb_S (sX1_approachWanted_S (sI S 0 1 ((S.1 0 1) + 1)) (sX9_isSplicePending (sI S 0 1 ((S.1 0 1) + 1)) (S.1 0 12))))))) rfl (by decide) rfl hl.1 rfl (Nat.le_of_ble_eq_true rfl) (by decide) dX3_tick_66 (fun H locs hW => ?_)
      have hI_5 : Inv (sX3_inspect_S (sX3_wind_S (sX3_unwind_S (sX3_passWeb_S (sX1_approachWanted_S (sI S 0 1 ((S.1 0 1) + 1)) (sX9_isSplicePending (sI S 0 1 ((S.1 0 1) + 1)) (S.1 0 12))))))) := inv_X3_inspect (sX3_wind_S (sX3_unwind_S (sX3_passWeb_S (sX1_approachWanted_S (sI S 0 1 ((S.1 0 1) + 1)) (sX9_isSplicePending (sI S 0 1 ((S.1 0 1) + 1)) (S.1 0 12)))))) hI_4
      obtain ⟨⟨-, -, -⟩, ⟨-, hq_hI_5⟩, ⟨-, hm_hI_5⟩, ⟨-, ho_hI_5⟩, ⟨-, hc_hI_5⟩⟩ := id hI_5
      exact hend _ _ _ _ _ (by simp only [sX3_tick_S, if_pos c_4, if_pos c_58]) hW dX3_tick_69
    · skip
      refine lv_aload_n hx hb dX3_tick_61 rfl (lv_at hl 0 rfl) ?_
      refine q_VV hC hW (c_X3_control l D cc ad (sX3_wind_S (sX3_unwind_S (sX3_passWeb_S (sX1_approachWanted_S (sI S 0 1 ((S.1 0 1) + 1)) (sX9_isSplicePending (sI S 0 1 ((S.1 0 1) + 1)) (S.1 0 12)))))) hI_4) mX3_195 0 (Lg0 cc ad (sX3_wind_S (sX3_unwind_S (sX3_passWeb_S (sX1_approachWanted_S (sI S 0 1 ((S.1 0 1) + 1)) (sX9_isSplicePending (sI S 0 1 ((S.1 0 1) + 1)) (S.1 0 12))))))) rfl (by decide) rfl hl.1 rfl (Nat.le_of_ble_eq_true rfl) (by decide) dX3_tick_62 (fun H locs hW => ?_)
      have hI_6 : Inv (sX3_control_S (sX3_wind_S (sX3_unwind_S (sX3_passWeb_S (sX1_approachWanted_S (sI S 0 1 ((S.1 0 1) + 1)) (sX9_isSplicePending (sI S 0 1 ((S.1 0 1) + 1)) (S.1 0 12))))))) := inv_X3_control (sX3_wind_S (sX3_unwind_S (sX3_passWeb_S (sX1_approachWanted_S (sI S 0 1 ((S.1 0 1) + 1)) (sX9_isSplicePending (sI S 0 1 ((S.1 0 1) + 1)) (S.1 0 12)))))) hI_4
      obtain ⟨⟨-, -, -⟩, ⟨-, hq_hI_6⟩, ⟨-, hm_hI_6⟩, ⟨-, ho_hI_6⟩, ⟨-, hc_hI_6⟩⟩ := id hI_6
      refine lv_aload_n hx hb dX3_tick_65 rfl (lv_at hl 0 rfl) ?_
      refine q_VV hC hW (c_X3_inspect l D cc ad (sX3_control_S (sX3_wind_S (sX3_unwind_S (sX3_passWeb_S (sX1_approachWanted_S (sI S 0 1 ((S.1 0 1) + 1)) (sX9_isSplicePending (sI S 0 1 ((S.1 0 1) + 1)) (S.1 0 12))))))) hI_6) mX3_198 0 (Lg0 cc ad (sX3_control_S (sX3_wind_S (sX3_unwind_S (sX3_passWeb_S (sX1_approachWanted_S (sI S 0 1 ((S.1 0 1) + 1)) (sX9_isSplicePending (sI S 0 1 ((S.1 0 1) + 1)) (S.1 0 12)))))))) rfl (by decide) rfl hl.1 rfl (Nat.le_of_ble_eq_true rfl) (by decide) dX3_tick_66 (fun H locs hW => ?_)
      have hI_7 : Inv (sX3_inspect_S (sX3_control_S (sX3_wind_S (sX3_unwind_S (sX3_passWeb_S (sX1_approachWanted_S (sI S 0 1 ((S.1 0 1) + 1)) (sX9_isSplicePending (sI S 0 1 ((S.1 0 1) + 1)) (S.1 0 12)))))))) := inv_X3_inspect (sX3_control_S (sX3_wind_S (sX3_unwind_S (sX3_passWeb_S (sX1_approachWanted_S (sI S 0 1 ((S.1 0 1) + 1)) (sX9_isSplicePending (sI S 0 1 ((S.1 0 1) + 1)) (S.1 0 12))))))) hI_6
      obtain ⟨⟨-, -, -⟩, ⟨-, hq_hI_7⟩, ⟨-, hm_hI_7⟩, ⟨-, ho_hI_7⟩, ⟨-, hc_hI_7⟩⟩ := id hI_7
      exact hend _ _ _ _ _ (by simp only [sX3_tick_S, if_pos c_4, if_neg c_58]) hW dX3_tick_69
  · skip
    exact hend _ _ _ _ _ (by simp only [sX3_tick_S, if_neg c_4]) hW dX3_tick_7
