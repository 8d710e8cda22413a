def LX12_tick_29_S (S : St)  : Nat → St
  | 0 => (sX12_rewind_S (sX12_unwind_S (sX12_feed_S (sX12_hurry_S (sJ S 11 48 ((S.2 11 48) + 1))))))
  | k + 1 => (if (LX12_tick_29_S S k).2 11 50 ≤ 0 then (LX12_tick_29_S S k) else sX12_controls_S (LX12_tick_29_S S k) k)
def LX12_tick_66_S (S : St)  : Nat → St
  | 0 => (sX12_removeMarks_S (LX12_tick_29_S S (cN S)))
  | k + 1 => (sX12_watch_S (LX12_tick_66_S S k) k)
theorem I_pre (S : St) : (sX12_rewind_S (sX12_unwind_S (sX12_feed_S (mPre S)))).1 = S.1 := by
  rw [I_X12_rewind, I_X12_unwind, I_X12_feed]
  exact I_X12_hurry _
theorem inv_pre (S : St) (hI : InvM S) : InvM (mPre S) := inv_X12_hurry (sJ S 11 48 _) hI
theorem I29_tick (S : St) (k : Nat) : (LX12_tick_29_S S k).1 = (sX12_rewind_S (sX12_unwind_S (sX12_feed_S (mPre S)))).1 := by
  induction k with
  | zero => rfl
  | succ k ih =>
    unfold LX12_tick_29_S
    split
    · exact ih
    · exact (I_X12_controls _ _).trans ih
theorem invL29_tick (S : St) (k : Nat) (hI : InvM S) : InvM (LX12_tick_29_S S k) := by
  induction k with
  | zero => exact inv_X12_rewind _ (inv_X12_unwind _ (inv_X12_feed _ (inv_pre S hI)))
  | succ k ih =>
    unfold LX12_tick_29_S
    split
    · exact ih
    · exact inv_X12_controls _ _ ih
theorem K29_tick (S : St) (k a b : Nat) (h : okK a b) (hI : InvM S) : (LX12_tick_29_S S k).2 a b = (sX12_feed_S (mPre S)).2 a b := by
  induction k with
  | zero => exact (K_X12_rewind _ _ _ h).trans (K_X12_unwind _ _ _ h (inv_X12_feed _ (inv_pre S hI)).2.1.2)
  | succ k ih =>
    unfold LX12_tick_29_S
    split
    · exact ih
    · exact (K_X12_controls _ _ _ _ h).trans ih
theorem K5_pre (S : St) (j : Nat) (hI : InvM S) : (sX12_feed_S (mPre S)).2 5 j = S.2 5 j := by
  refine (L4_feed _ _ 5 j (by omega) (inv_pre S hI).1.2.2).trans ?_
  show (sJ _ 11 61 _).2 5 j = _
  rw [rJ_sk _ _ _ _ _ _ (by omega), L2_feed _ _ _ _ (by decide)]
  unfold mPre sX12_hurry_S
  repeat' split
  all_goals rfl
theorem n29_tick (S : St) (k : Nat) : (LX12_tick_29_S S k).1 0 0 = S.1 0 0 := by rw [I29_tick, I_pre]
theorem I66_tick (S : St) (k : Nat) : (LX12_tick_66_S S k).1 = S.1 := by
  induction k with
  | zero => exact (I_X12_removeMarks _).trans ((I29_tick S (cN S)).trans (I_pre S))
  | succ k ih => exact (I_X12_watch _ _).trans ih
theorem n66_tick (S : St) (k : Nat) : (LX12_tick_66_S S k).1 0 0 = S.1 0 0 := by rw [I66_tick]
theorem invL66_tick (S : St) (k : Nat) (hI : InvM S) (hk : k ≤ 6 := by omega) : InvM (LX12_tick_66_S S k) := by
  induction k with
  | zero => exact inv_X12_removeMarks _ (invL29_tick S (cN S) hI)
  | succ k ih => exact inv_X12_watch _ _ (by omega) (ih (by omega))
theorem K66_tick (S : St) (k a b : Nat) (h : okK a b) (hI : InvM S) : (LX12_tick_66_S S k).2 a b = (sX12_feed_S (mPre S)).2 a b := by
  induction k with
  | zero => exact (K_X12_removeMarks _ _ _ h).trans (K29_tick S (cN S) a b h hI)
  | succ k ih => exact (K_X12_watch _ _ _ _ h).trans ih
def sX12_tick_S (S : St)  : St := LX12_tick_66_S S (cN S)
set_option maxHeartbeats 4000000 in
set_option maxRecDepth 100000 in
theorem c_X12_tick (l : Launch) (D : va_G) (cc : Nat → ClassId) (ad : Nat → Nat) (S : St) (hI : InvM S) (hOK : OKT S) : CtV l D cc yX12_tick cX12_tick 2 4 [.ref (ad 0)] (MW cc ad S) (MW cc ad (sX12_tick_S S )) := by
  refine CtV.of (plainFor_of_name (by decide +kernel)) (Nat.le_of_ble_eq_true rfl) ?_
  intro p e s m args below meth c A Q hC hW hend ls hl
  obtain ⟨⟨hx, hb, hml, hown, hts⟩, hNW⟩ := id hC
  have hl : lv_has ls 2 [(0, .ref (ad 0))] := hl
  obtain ⟨⟨-, hn1_hI, hn2_hI⟩, ⟨-, hq_hI⟩, -, ⟨-, hh_hI⟩, hs_hI⟩ := id hI
  refine lv_aload_n hx hb dX12_tick_0 rfl (lv_at hl 0 rfl) ?_
  refine q_get hC hW kX12_41 0 (Mg0 cc ad S) (v := .ref (ad 11)) rfl dX12_tick_1 ?_
  refine lv_bipush (v := 48) hx hb dX12_tick_4 (by decide) ?_
  refine lv_dup2_11 hx hb dX12_tick_6 rfl rfl ?_
  refine q_lald hC hW 11 (Mg11 cc ad S) (v := (S.2 11 48)) 48 rfl (by omega) (by decide) rfl dX12_tick_7 ?_
  refine lv_lconst (v := 1) hx hb dX12_tick_8 rfl ?_
  refine lv_ladd hx hb dX12_tick_9 ?_
  refine q_last hC hW 11 (Mg11 cc ad S) 48 rfl (by omega) (by decide) (Ms11 cc ad S 48 ((S.2 11 48) + 1)) dX12_tick_10 (fun H locs hW => ?_)
  refine lv_aload_n hx hb dX12_tick_11 rfl (lv_at hl 0 rfl) ?_
  refine q_VV hC hW (c_X12_hurry l D cc ad (sJ S 11 48 ((S.2 11 48) + 1))) mX12_203 0 (Mg0 cc ad (sJ S 11 48 ((S.2 11 48) + 1))) rfl (by decide) rfl hl.1 rfl (Nat.le_of_ble_eq_true rfl) (by decide) dX12_tick_12 (fun H locs hW => ?_)
  have hI_1 : InvM (sX12_hurry_S (sJ S 11 48 ((S.2 11 48) + 1))) := inv_X12_hurry (sJ S 11 48 ((S.2 11 48) + 1)) hI
  obtain ⟨⟨-, hn1_hI_1, hn2_hI_1⟩, ⟨-, hq_hI_1⟩, -, ⟨-, hh_hI_1⟩, hs_hI_1⟩ := id hI_1
  refine lv_aload_n hx hb dX12_tick_15 rfl (lv_at hl 0 rfl) ?_
  refine q_VV hC hW (c_X12_feed l D cc ad (sX12_hurry_S (sJ S 11 48 ((S.2 11 48) + 1))) hI_1 hOK.1 hOK.2.1) mX12_206 0 (Mg0 cc ad (sX12_hurry_S (sJ S 11 48 ((S.2 11 48) + 1)))) rfl (by decide) rfl hl.1 rfl (Nat.le_of_ble_eq_true rfl) (by decide) dX12_tick_16 (fun H locs hW => ?_)
  have hI_2 : InvM (sX12_feed_S (sX12_hurry_S (sJ S 11 48 ((S.2 11 48) + 1)))) := inv_X12_feed (sX12_hurry_S (sJ S 11 48 ((S.2 11 48) + 1))) hI_1
  obtain ⟨⟨-, hn1_hI_2, hn2_hI_2⟩, ⟨-, hq_hI_2⟩, -, ⟨-, hh_hI_2⟩, hs_hI_2⟩ := id hI_2
  refine lv_aload_n hx hb dX12_tick_19 rfl (lv_at hl 0 rfl) ?_
  refine q_VV hC hW (c_X12_unwind l D cc ad (sX12_feed_S (sX12_hurry_S (sJ S 11 48 ((S.2 11 48) + 1)))) hI_2) mX12_209 0 (Mg0 cc ad (sX12_feed_S (sX12_hurry_S (sJ S 11 48 ((S.2 11 48) + 1))))) rfl (by decide) rfl hl.1 rfl (Nat.le_of_ble_eq_true rfl) (by decide) dX12_tick_20 (fun H locs hW => ?_)
  have hI_3 : InvM (sX12_unwind_S (sX12_feed_S (sX12_hurry_S (sJ S 11 48 ((S.2 11 48) + 1))))) := inv_X12_unwind (sX12_feed_S (sX12_hurry_S (sJ S 11 48 ((S.2 11 48) + 1)))) hI_2
  obtain ⟨⟨-, hn1_hI_3, hn2_hI_3⟩, ⟨-, hq_hI_3⟩, -, ⟨-, hh_hI_3⟩, hs_hI_3⟩ := id hI_3
  refine lv_aload_n hx hb dX12_tick_23 rfl (lv_at hl 0 rfl) ?_
  refine q_VV hC hW (c_X12_rewind l D cc ad (sX12_unwind_S (sX12_feed_S (sX12_hurry_S (sJ S 11 48 ((S.2 11 48) + 1))))) hI_3) mX12_212 0 (Mg0 cc ad (sX12_unwind_S (sX12_feed_S (sX12_hurry_S (sJ S 11 48 ((S.2 11 48) + 1)))))) rfl (by decide) rfl hl.1 rfl (Nat.le_of_ble_eq_true rfl) (by decide) dX12_tick_24 (fun H locs hW => ?_)
  have hI_4 : InvM (sX12_rewind_S (sX12_unwind_S (sX12_feed_S (sX12_hurry_S (sJ S 11 48 ((S.2 11 48) + 1)))))) := inv_X12_rewind (sX12_unwind_S (sX12_feed_S (sX12_hurry_S (sJ S 11 48 ((S.2 11 48) + 1))))) hI_3
  obtain ⟨⟨-, hn1_hI_4, hn2_hI_4⟩, ⟨-, hq_hI_4⟩, -, ⟨-, hh_hI_4⟩, hs_hI_4⟩ := id hI_4
  refine lv_iconst (v := 0) hx hb dX12_tick_27 (by decide) ?_
  refine lv_istore_n (lv' := [(1, .int 0), (0, .ref (ad 0))]) hx hb dX12_tick_28 rfl hl (by decide) rfl (fun ls hl => ?_)
  have loop1 : ∀ (rn k : Nat), k + rn = (cN S) → ∀ (H : Heap) (locs : List Loc) (ls : Array Slot), Wd D cc (MW cc ad (LX12_tick_29_S S k)) A s.heap H locs s → lv_has ls 2 [(0, .ref (ad 0)), (1, .int (nI k))] → W p l e (rmD 4) s m args below meth c H locs 0 0 Q (F0 m 29 ls []) := by
    intro rn
    induction rn with
    | zero =>
      intro k hk H locs ls hW hl
      obtain rfl : (cN S) = k := by omega
      have hI_5 : InvM (LX12_tick_29_S S (cN S)) := invL29_tick S (cN S) hI
      obtain ⟨⟨-, hn1_hI_5, hn2_hI_5⟩, ⟨-, hq_hI_5⟩, -, ⟨-, hh_hI_5⟩, hs_hI_5⟩ := id hI_5
      refine lv_iload_n hx hb dX12_tick_29 rfl (lv_at hl 1 rfl) ?_
      refine lv_aload_n hx hb dX12_tick_30 rfl (lv_at hl 0 rfl) ?_
      refine q_get hC hW kX12_69 0 (Mg0 cc ad (LX12_tick_29_S S (cN S))) (v := .int (nI (cN S))) (congrArg (fun z => some (Value.int z)) ((n29_tick S (cN S)).trans hI.1.1)) dX12_tick_31 ?_
      refine q_icmp_ge_n (tgt := 60) hx hb (a := (cN S)) (b := (cN S)) rfl rfl (by omega) (by omega) dX12_tick_34 (by decide) (fun c_34 => ?_) (fun c_34 => by exfalso; omega)
      refine lv_aload_n hx hb dX12_tick_60 rfl (lv_at hl 0 rfl) ?_
      refine q_VV hC hW (c_X12_removeMarks l D cc ad (LX12_tick_29_S S (cN S)) hI_5) mX12_218 0 (Mg0 cc ad (LX12_tick_29_S S (cN S))) rfl (by decide) rfl hl.1 rfl (Nat.le_of_ble_eq_true rfl) (by decide) dX12_tick_61 (fun H locs hW => ?_)
      have hI_6 : InvM (sX12_removeMarks_S (LX12_tick_29_S S (cN S))) := inv_X12_removeMarks (LX12_tick_29_S S (cN S)) hI_5
      obtain ⟨⟨-, hn1_hI_6, hn2_hI_6⟩, ⟨-, hq_hI_6⟩, -, ⟨-, hh_hI_6⟩, hs_hI_6⟩ := id hI_6
      refine lv_iconst (v := 0) hx hb dX12_tick_64 (by decide) ?_
      refine lv_istore_n (lv' := [(1, .int 0), (0, .ref (ad 0))]) hx hb dX12_tick_65 rfl hl (by decide) rfl (fun ls hl => ?_)
      have loop2 : ∀ (rn k : Nat), k + rn = (cN S) → ∀ (H : Heap) (locs : List Loc) (ls : Array Slot), Wd D cc (MW cc ad (LX12_tick_66_S S k)) A s.heap H locs s → lv_has ls 2 [(0, .ref (ad 0)), (1, .int (nI k))] → W p l e (rmD 4) s m args below meth c H locs 0 0 Q (F0 m 66 ls []) := by
        intro rn
        induction rn with
        | zero =>
          intro k hk H locs ls hW hl
          obtain rfl : (cN S) = k := by omega
          have hI_7 : InvM (LX12_tick_66_S S (cN S)) := invL66_tick S (cN S) hI
          obtain ⟨⟨-, hn1_hI_7, hn2_hI_7⟩, ⟨-, hq_hI_7⟩, -, ⟨-, hh_hI_7⟩, hs_hI_7⟩ := id hI_7
          refine lv_iload_n hx hb dX12_tick_66 rfl (lv_at hl 1 rfl) ?_
          refine lv_aload_n hx hb dX12_tick_67 rfl (lv_at hl 0 rfl) ?_
          refine q_get hC hW kX12_69 0 (Mg0 cc ad (LX12_tick_66_S S (cN S))) (v := .int (nI (cN S))) (congrArg (fun z => some (Value.int z)) ((n66_tick S (cN S)).trans hI.1.1)) dX12_tick_68 ?_
          refine q_icmp_ge_n (tgt := 85) hx hb (a := (cN S)) (b := (cN S)) rfl rfl (by omega) (by omega) dX12_tick_71 (by decide) (fun c_71 => ?_) (fun c_71 => by exfalso; omega)
          exact hend _ _ _ _ _ (by unfold sX12_tick_S; rfl) hW dX12_tick_85
        | succ rn ih =>
          intro k hk H locs ls hW hl
          have hkN : k < (cN S) := by omega
          have hI_8 : InvM (LX12_tick_66_S S k) := invL66_tick S k hI
          obtain ⟨⟨-, hn1_hI_8, hn2_hI_8⟩, ⟨-, hq_hI_8⟩, -, ⟨-, hh_hI_8⟩, hs_hI_8⟩ := id hI_8
          refine lv_iload_n hx hb dX12_tick_66 rfl (lv_at hl 1 rfl) ?_
          refine lv_aload_n hx hb dX12_tick_67 rfl (lv_at hl 0 rfl) ?_
          refine q_get hC hW kX12_69 0 (Mg0 cc ad (LX12_tick_66_S S k)) (v := .int (nI (cN S))) (congrArg (fun z => some (Value.int z)) ((n66_tick S k).trans hI.1.1)) dX12_tick_68 ?_
          refine q_icmp_ge_n (tgt := 85) hx hb (a := k) (b := (cN S)) rfl rfl (by omega) (by omega) dX12_tick_71 (by decide) (fun c_71 => by exfalso; omega) (fun c_71 => ?_)
          refine lv_aload_n hx hb dX12_tick_74 rfl (lv_at hl 0 rfl) ?_
          refine lv_iload_n hx hb dX12_tick_75 rfl (lv_at hl 1 rfl) ?_
          refine q_VV hC hW (c_X12_watch l D cc ad (LX12_tick_66_S S k) k hI_8 (by omega) (by rw [K66_tick _ _ _ _ (by unfold okK; omega) hI]; exact hOK.2.2.1 k (by omega))) mX12_221 0 (Mg0 cc ad (LX12_tick_66_S S k)) rfl (by decide) rfl hl.1 rfl (Nat.le_of_ble_eq_true rfl) (by decide) dX12_tick_76 (fun H locs hW => ?_)
          have hI_9 : InvM (sX12_watch_S (LX12_tick_66_S S k) k) := inv_X12_watch (LX12_tick_66_S S k) k (by omega) hI_8
          obtain ⟨⟨-, hn1_hI_9, hn2_hI_9⟩, ⟨-, hq_hI_9⟩, -, ⟨-, hh_hI_9⟩, hs_hI_9⟩ := id hI_9
          refine lv_iinc (v := (nI (k + 1))) (lv' := [(1, .int (nI (k + 1))), (0, .ref (ad 0))]) hx hb dX12_tick_79 hl (k := 1) rfl (nq_inc k 1) (by decide) rfl (fun ls hl => ?_)
          refine lv_goto (tgt := 66) hx hb dX12_tick_82 (by decide) ?_
          exact ih (k + 1) (by omega) _ _ _ (by simp only [LX12_tick_66_S]; exact hW) (lv_sub hl [1, 0] rfl)
      exact loop2 (cN S) 0 (by omega) _ _ _ hW (lv_sub hl [1, 0] rfl)
    | succ rn ih =>
      intro k hk H locs ls hW hl
      have hkN : k < (cN S) := by omega
      have hI_10 : InvM (LX12_tick_29_S S k) := invL29_tick S k hI
      obtain ⟨⟨-, hn1_hI_10, hn2_hI_10⟩, ⟨-, hq_hI_10⟩, -, ⟨-, hh_hI_10⟩, hs_hI_10⟩ := id hI_10
      refine lv_iload_n hx hb dX12_tick_29 rfl (lv_at hl 1 rfl) ?_
      refine lv_aload_n hx hb dX12_tick_30 rfl (lv_at hl 0 rfl) ?_
      refine q_get hC hW kX12_69 0 (Mg0 cc ad (LX12_tick_29_S S k)) (v := .int (nI (cN S))) (congrArg (fun z => some (Value.int z)) ((n29_tick S k).trans hI.1.1)) dX12_tick_31 ?_
      refine q_icmp_ge_n (tgt := 60) hx hb (a := k) (b := (cN S)) rfl rfl (by omega) (by omega) dX12_tick_34 (by decide) (fun c_34 => by exfalso; omega) (fun c_34 => ?_)
      refine lv_aload_n hx hb dX12_tick_37 rfl (lv_at hl 0 rfl) ?_
      refine q_get hC hW kX12_41 0 (Mg0 cc ad (LX12_tick_29_S S k)) (v := .ref (ad 11)) rfl dX12_tick_38 ?_
      refine lv_bipush (v := 50) hx hb dX12_tick_41 (by decide) ?_
      refine q_lald hC hW 11 (Mg11 cc ad (LX12_tick_29_S S k)) (v := ((LX12_tick_29_S S k).2 11 50)) 50 rfl (by omega) (by decide) rfl dX12_tick_43 ?_
      refine lv_lconst (v := 0) hx hb dX12_tick_44 rfl ?_
      refine q_jle (tgt := 60) hC dX12_tick_45 dX12_tick_46 (by decide) (fun c_45 => ?_) (fun c_45 => ?_)
      · skip
        have hst := stay (LX12_tick_29_S S) (fun X => ¬ X.2 11 50 ≤ 0) (fun j hj => by simp only [LX12_tick_29_S]; exact if_pos (Classical.not_not.mp hj)) k (cN S) (by omega) (fun q => q c_45)
        rw [← hst] at hW
        have hI_11 : InvM (LX12_tick_29_S S (cN S)) := invL29_tick S (cN S) hI
        obtain ⟨⟨-, hn1_hI_11, hn2_hI_11⟩, ⟨-, hq_hI_11⟩, -, ⟨-, hh_hI_11⟩, hs_hI_11⟩ := id hI_11
        refine lv_aload_n hx hb dX12_tick_60 rfl (lv_at hl 0 rfl) ?_
        refine q_VV hC hW (c_X12_removeMarks l D cc ad (LX12_tick_29_S S (cN S)) hI_11) mX12_218 0 (Mg0 cc ad (LX12_tick_29_S S (cN S))) rfl (by decide) rfl hl.1 rfl (Nat.le_of_ble_eq_true rfl) (by decide) dX12_tick_61 (fun H locs hW => ?_)
        have hI_12 : InvM (sX12_removeMarks_S (LX12_tick_29_S S (cN S))) := inv_X12_removeMarks (LX12_tick_29_S S (cN S)) hI_11
        obtain ⟨⟨-, hn1_hI_12, hn2_hI_12⟩, ⟨-, hq_hI_12⟩, -, ⟨-, hh_hI_12⟩, hs_hI_12⟩ := id hI_12
        refine lv_iconst (v := 0) hx hb dX12_tick_64 (by decide) ?_
        refine lv_istore_n (lv' := [(1, .int 0), (0, .ref (ad 0))]) hx hb dX12_tick_65 rfl hl (by decide) rfl (fun ls hl => ?_)
        have loop3 : ∀ (rn k : Nat), k + rn = (cN S) → ∀ (H : Heap) (locs : List Loc) (ls : Array Slot), Wd D cc (MW cc ad (LX12_tick_66_S S k)) A s.heap H locs s → lv_has ls 2 [(0, .ref (ad 0)), (1, .int (nI k))] → W p l e (rmD 4) s m args below meth c H locs 0 0 Q (F0 m 66 ls []) := by
          intro rn
          induction rn with
          | zero =>
            intro k hk H locs ls hW hl
            obtain rfl : (cN S) = k := by omega
            have hI_13 : InvM (LX12_tick_66_S S (cN S)) := invL66_tick S (cN S) hI
            obtain ⟨⟨-, hn1_hI_13, hn2_hI_13⟩, ⟨-, hq_hI_13⟩, -, ⟨-, hh_hI_13⟩, hs_hI_13⟩ := id hI_13
            refine lv_iload_n hx hb dX12_tick_66 rfl (lv_at hl 1 rfl) ?_
            refine lv_aload_n hx hb dX12_tick_67 rfl (lv_at hl 0 rfl) ?_
            refine q_get hC hW kX12_69 0 (Mg0 cc ad (LX12_tick_66_S S (cN S))) (v := .int (nI (cN S))) (congrArg (fun z => some (Value.int z)) ((n66_tick S (cN S)).trans hI.1.1)) dX12_tick_68 ?_
            refine q_icmp_ge_n (tgt := 85) hx hb (a := (cN S)) (b := (cN S)) rfl rfl (by omega) (by omega) dX12_tick_71 (by decide) (fun c_71 => ?_) (fun c_71 => by exfalso; omega)
            exact hend _ _ _ _ _ (by unfold sX12_tick_S; rfl) hW dX12_tick_85
          | succ rn ih =>
            intro k hk H locs ls hW hl
            have hkN : k < (cN S) := by omega
            have hI_14 : InvM (LX12_tick_66_S S k) := invL66_tick S k hI
            obtain ⟨⟨-, hn1_hI_14, hn2_hI_14⟩, ⟨-, hq_hI_14⟩, -, ⟨-, hh_hI_14⟩, hs_hI_14⟩ := id hI_14
            refine lv_iload_n hx hb dX12_tick_66 rfl (lv_at hl 1 rfl) ?_
            refine lv_aload_n hx hb dX12_tick_67 rfl (lv_at hl 0 rfl) ?_
            refine q_get hC hW kX12_69 0 (Mg0 cc ad (LX12_tick_66_S S k)) (v := .int (nI (cN S))) (congrArg (fun z => some (Value.int z)) ((n66_tick S k).trans hI.1.1)) dX12_tick_68 ?_
            refine q_icmp_ge_n (tgt := 85) hx hb (a := k) (b := (cN S)) rfl rfl (by omega) (by omega) dX12_tick_71 (by decide) (fun c_71 => by exfalso; omega) (fun c_71 => ?_)
            refine lv_aload_n hx hb dX12_tick_74 rfl (lv_at hl 0 rfl) ?_
            refine lv_iload_n hx hb dX12_tick_75 rfl (lv_at hl 1 rfl) ?_
            refine q_VV hC hW (c_X12_watch l D cc ad (LX12_tick_66_S S k) k hI_14 (by omega) (by rw [K66_tick _ _ _ _ (by unfold okK; omega) hI]; exact hOK.2.2.1 k (by omega))) mX12_221 0 (Mg0 cc ad (LX12_tick_66_S S k)) rfl (by decide) rfl hl.1 rfl (Nat.le_of_ble_eq_true rfl) (by decide) dX12_tick_76 (fun H locs hW => ?_)
            have hI_15 : InvM (sX12_watch_S (LX12_tick_66_S S k) k) := inv_X12_watch (LX12_tick_66_S S k) k (by omega) hI_14
            obtain ⟨⟨-, hn1_hI_15, hn2_hI_15⟩, ⟨-, hq_hI_15⟩, -, ⟨-, hh_hI_15⟩, hs_hI_15⟩ := id hI_15
            refine lv_iinc (v := (nI (k + 1))) (lv' := [(1, .int (nI (k + 1))), (0, .ref (ad 0))]) hx hb dX12_tick_79 hl (k := 1) rfl (nq_inc k 1) (by decide) rfl (fun ls hl => ?_)
            refine lv_goto (tgt := 66) hx hb dX12_tick_82 (by decide) ?_
            exact ih (k + 1) (by omega) _ _ _ (by simp only [LX12_tick_66_S, if_pos c_45]; exact hW) (lv_sub hl [1, 0] rfl)
        exact loop3 (cN S) 0 (by omega) _ _ _ hW (lv_sub hl [1, 0] rfl)
      · skip
        refine lv_aload_n hx hb dX12_tick_49 rfl (lv_at hl 0 rfl) ?_
        refine lv_iload_n hx hb dX12_tick_50 rfl (lv_at hl 1 rfl) ?_
        refine q_VV hC hW (c_X12_controls l D cc ad (LX12_tick_29_S S k) k hI_10 (by omega) (by rw [K29_tick _ _ _ _ (by unfold okK; omega) hI]; exact hOK.2.2.1 k (by omega)) (fun hq => by rw [K29_tick _ _ _ _ (by unfold okK; omega) hI, K5_pre S k hI]; exact hOK.2.2.2 k (by omega) (by rw [I29_tick, I_pre] at hq; exact hq))) mX12_215 0 (Mg0 cc ad (LX12_tick_29_S S k)) rfl (by decide) rfl hl.1 rfl (Nat.le_of_ble_eq_true rfl) (by decide) dX12_tick_51 (fun H locs hW => ?_)
        have hI_16 : InvM (sX12_controls_S (LX12_tick_29_S S k) k) := inv_X12_controls (LX12_tick_29_S S k) k hI_10
        obtain ⟨⟨-, hn1_hI_16, hn2_hI_16⟩, ⟨-, hq_hI_16⟩, -, ⟨-, hh_hI_16⟩, hs_hI_16⟩ := id hI_16
        refine lv_iinc (v := (nI (k + 1))) (lv' := [(1, .int (nI (k + 1))), (0, .ref (ad 0))]) hx hb dX12_tick_54 hl (k := 1) rfl (nq_inc k 1) (by decide) rfl (fun ls hl => ?_)
        refine lv_goto (tgt := 29) hx hb dX12_tick_57 (by decide) ?_
        exact ih (k + 1) (by omega) _ _ _ (by simp only [LX12_tick_29_S, if_neg c_45]; exact hW) (lv_sub hl [1, 0] rfl)
  exact loop1 (cN S) 0 (by omega) _ _ _ hW (lv_sub hl [1, 0] rfl)
theorem inv_X12_tick (S : St) (hI : InvM S) : InvM (sX12_tick_S S) := invL66_tick S (cN S) hI hI.1.2.2
theorem I_X12_tick (S : St) : (sX12_tick_S S).1 = S.1 := I66_tick S (cN S)
