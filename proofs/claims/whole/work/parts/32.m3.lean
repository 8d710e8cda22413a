theorem inv_X12_removeMarks (S : St) (hI : InvM S) : InvM (sX12_removeMarks_S S) := by
  obtain ⟨⟨h1, b1⟩, ⟨h2, b2⟩, h3, ⟨h4, b4⟩, b5⟩ := id hI
  unfold sX12_removeMarks_S
  generalize xGone (fun i => S.2 11 61 - S.2 15 i) (sX12_materialTo S (cN S)) (mM S) 0 = E
  exact InvM.of (n := cN S) (q := mQ S) (mc := mM S - E) (mh := mH S) ((L1_removeMarks S E _ 0 0).trans h1) ((L2_removeMarks S E _ 11 52 (by decide)).trans h2) (L2_removeMarks S E _ 11 62 (by decide)) ((L2_removeMarks S E _ 11 63 (by decide)).trans h4) ⟨b1, b2, b4, by omega⟩
theorem rJ_sk (S : St) (a b : Nat) (v : Int64) (x y : Nat) (h : ¬ (x = a ∧ y = b)) : (sJ S a b v).2 x y = S.2 x y := by rw [rJ_sJ, if_neg h]
def LX12_feed_2_S (S : St)  : Nat → St
  | 0 => S
  | k + 1 => (if k = 0 then (sJ (LX12_feed_2_S S k) 17 k (((sX12_speed (LX12_feed_2_S S k) k) * (S.2 0 0)) / ((S.2 0 0) + (S.2 0 1)))) else (sJ (LX12_feed_2_S S k) 17 k (((sX12_speed (LX12_feed_2_S S k) k) * (S.2 11 ((8 * k) - 8))) / (sX12_length (LX12_feed_2_S S k) (k - 1)))))
def LX12_feed_93_S (S : St)  : Nat → St
  | 0 => (sJ (LX12_feed_2_S S (cN S + 1)) 11 61 ((S.2 11 61) + ((LX12_feed_2_S S (cN S + 1)).2 17 0)))
  | k + 1 => (sJ (sJ (LX12_feed_93_S S k) 11 (8 * k + 4) (((LX12_feed_93_S S k).2 11 (8 * k + 4)) + ((LX12_feed_2_S S (cN S + 1)).2 17 (k + 1)))) 11 (8 * k) (((LX12_feed_93_S S k).2 11 (8 * k)) + (((LX12_feed_2_S S (cN S + 1)).2 17 k) - ((LX12_feed_2_S S (cN S + 1)).2 17 (k + 1)))))
theorem L1_feed (S : St) (k a b : Nat) : (LX12_feed_2_S S k).1 a b = S.1 a b := by
  induction k with
  | zero => rfl
  | succ k ih =>
    unfold LX12_feed_2_S
    split <;> exact ih
theorem L2_feed (S : St) (k a b : Nat) (ha : ¬ a = 17) : (LX12_feed_2_S S k).2 a b = S.2 a b := by
  induction k with
  | zero => rfl
  | succ k ih =>
    unfold LX12_feed_2_S
    split <;> (rw [rJ_sk _ _ _ _ _ _ (by omega)]; exact ih)
theorem len_feed (S : St) (k j : Nat) : sX12_length (LX12_feed_2_S S k) j = sX12_length S j := by
  unfold sX12_length
  rw [L1_feed, L2_feed _ _ _ _ (by decide), L2_feed _ _ _ _ (by decide)]
theorem L3_feed (S : St) (k a b : Nat) : (LX12_feed_93_S S k).1 a b = (LX12_feed_2_S S (cN S + 1)).1 a b := by
  induction k with
  | zero => rfl
  | succ k ih => exact ih
theorem L4_feed (S : St) (k a b : Nat) (hab : ¬ a = 11 ∨ 48 ≤ b) (hk : k ≤ 6 := by omega) : (LX12_feed_93_S S k).2 a b = (LX12_feed_93_S S 0).2 a b := by
  induction k with
  | zero => rfl
  | succ k ih =>
    rw [← ih (by omega)]
    conv => lhs; unfold LX12_feed_93_S
    rw [rJ_sk _ _ _ _ _ _ (by omega), rJ_sk _ _ _ _ _ _ (by omega)]
def sX12_feed_S (S : St)  : St := (LX12_feed_93_S S (cN S))
set_option maxHeartbeats 4000000 in
set_option maxRecDepth 100000 in
theorem c_X12_feed (l : Launch) (D : va_G) (cc : Nat → ClassId) (ad : Nat → Nat) (S : St) (hI : InvM S) (hKW : ¬ S.2 0 0 + S.2 0 1 = 0) (hlen : ∀ j, j < cN S → ¬ sX12_length S j = 0) : CtV l D cc yX12_feed cX12_feed 4 3 [.ref (ad 0)] (MW cc ad S) (MW cc ad (sX12_feed_S S )) := by
  refine CtV.of (plainFor_of_name (by decide +kernel)) (Nat.le_of_ble_eq_true rfl) ?_
  intro p e s m args below meth c A Q hC hW hend ls hl
  obtain ⟨⟨hx, hb, hml, hown, hts⟩, hNW⟩ := id hC
  have hl : lv_has ls 4 [(0, .ref (ad 0))] := hl
  obtain ⟨⟨-, hn1_hI, hn2_hI⟩, ⟨-, hq_hI⟩, -, ⟨-, hh_hI⟩, hs_hI⟩ := id hI
  refine lv_iconst (v := 0) hx hb dX12_feed_0 (by decide) ?_
  refine lv_istore_n (lv' := [(1, .int 0), (0, .ref (ad 0))]) hx hb dX12_feed_1 rfl hl (by decide) rfl (fun ls hl => ?_)
  have loop1 : ∀ (rn k : Nat), k + rn = (cN S + 1) → ∀ (H : Heap) (locs : List Loc) (ls : Array Slot), Wd D cc (MW cc ad (LX12_feed_2_S S k)) A s.heap H locs s → lv_has ls 4 [(0, .ref (ad 0)), (1, .int (nI k))] → W p l e (rmD 3) s m args below meth c H locs 0 0 Q (F0 m 2 ls []) := by
    intro rn
    induction rn with
    | zero =>
      intro k hk H locs ls hW hl
      obtain rfl : (cN S + 1) = k := by omega
      refine lv_iload_n hx hb dX12_feed_2 rfl (lv_at hl 1 rfl) ?_
      refine lv_aload_n hx hb dX12_feed_3 rfl (lv_at hl 0 rfl) ?_
      refine q_get hC hW kX12_69 0 (Mg0 cc ad (LX12_feed_2_S S (cN S + 1))) (v := .int (nI (cN S))) (congrArg (fun z => some (Value.int z)) (((L1_feed  S (cN S + 1) 0 0)).trans hI.1.1)) dX12_feed_4 ?_
      refine q_icmp_gt_n (tgt := 75) hx hb (a := (cN S + 1)) (b := (cN S)) rfl rfl (by omega) (by omega) dX12_feed_7 (by decide) (fun c_7 => ?_) (fun c_7 => by exfalso; omega)
      refine lv_aload_n hx hb dX12_feed_75 rfl (lv_at hl 0 rfl) ?_
      refine q_get hC hW kX12_41 0 (Mg0 cc ad (LX12_feed_2_S S (cN S + 1))) (v := .ref (ad 11)) rfl dX12_feed_76 ?_
      refine lv_bipush (v := 61) hx hb dX12_feed_79 (by decide) ?_
      refine lv_dup2_11 hx hb dX12_feed_81 rfl rfl ?_
      refine q_lald hC hW 11 (Mg11 cc ad (LX12_feed_2_S S (cN S + 1))) (v := (S.2 11 61)) 61 rfl (by omega) (by decide) ((L2_feed  S (cN S + 1) 11 61 (by decide))) dX12_feed_82 ?_
      refine lv_aload_n hx hb dX12_feed_83 rfl (lv_at hl 0 rfl) ?_
      refine q_get hC hW kX12_59 0 (Mg0 cc ad (LX12_feed_2_S S (cN S + 1))) (v := .ref (ad 17)) rfl dX12_feed_84 ?_
      refine lv_iconst (v := 0) hx hb dX12_feed_87 (by decide) ?_
      refine q_lald hC hW 17 (Mg17 cc ad (LX12_feed_2_S S (cN S + 1))) (v := ((LX12_feed_2_S S (cN S + 1)).2 17 0)) 0 rfl (by omega) (by decide) rfl dX12_feed_88 ?_
      refine lv_ladd hx hb dX12_feed_89 ?_
      refine q_last hC hW 11 (Mg11 cc ad (LX12_feed_2_S S (cN S + 1))) 61 rfl (by omega) (by decide) (Ms11 cc ad (LX12_feed_2_S S (cN S + 1)) 61 ((S.2 11 61) + ((LX12_feed_2_S S (cN S + 1)).2 17 0))) dX12_feed_90 (fun H locs hW => ?_)
      refine lv_iconst (v := 0) hx hb dX12_feed_91 (by decide) ?_
      refine lv_istore_n (lv' := [(1, .int 0), (0, .ref (ad 0))]) hx hb dX12_feed_92 rfl hl (by decide) rfl (fun ls hl => ?_)
      have loop2 : ∀ (rn k : Nat), k + rn = (cN S) → ∀ (H : Heap) (locs : List Loc) (ls : Array Slot), Wd D cc (MW cc ad (LX12_feed_93_S S k)) A s.heap H locs s → lv_has ls 4 [(0, .ref (ad 0)), (1, .int (nI k))] → W p l e (rmD 3) s m args below meth c H locs 0 0 Q (F0 m 93 ls []) := by
        intro rn
        induction rn with
        | zero =>
          intro k hk H locs ls hW hl
          obtain rfl : (cN S) = k := by omega
          refine lv_iload_n hx hb dX12_feed_93 rfl (lv_at hl 1 rfl) ?_
          refine lv_aload_n hx hb dX12_feed_94 rfl (lv_at hl 0 rfl) ?_
          refine q_get hC hW kX12_69 0 (Mg0 cc ad (LX12_feed_93_S S (cN S))) (v := .int (nI (cN S))) (congrArg (fun z => some (Value.int z)) ((((L3_feed  S (cN S) 0 0)).trans (((L1_feed  S (cN S + 1) 0 0)))).trans hI.1.1)) dX12_feed_95 ?_
          refine q_icmp_ge_n (tgt := 158) hx hb (a := (cN S)) (b := (cN S)) rfl rfl (by omega) (by omega) dX12_feed_98 (by decide) (fun c_98 => ?_) (fun c_98 => by exfalso; omega)
          exact hend _ _ _ _ _ (by unfold sX12_feed_S; rfl) hW dX12_feed_158
        | succ rn ih =>
          intro k hk H locs ls hW hl
          have hkN : k < (cN S) := by omega
          refine lv_iload_n hx hb dX12_feed_93 rfl (lv_at hl 1 rfl) ?_
          refine lv_aload_n hx hb dX12_feed_94 rfl (lv_at hl 0 rfl) ?_
          refine q_get hC hW kX12_69 0 (Mg0 cc ad (LX12_feed_93_S S k)) (v := .int (nI (cN S))) (congrArg (fun z => some (Value.int z)) ((((L3_feed  S k 0 0)).trans (((L1_feed  S (cN S + 1) 0 0)))).trans hI.1.1)) dX12_feed_95 ?_
          refine q_icmp_ge_n (tgt := 158) hx hb (a := k) (b := (cN S)) rfl rfl (by omega) (by omega) dX12_feed_98 (by decide) (fun c_98 => by exfalso; omega) (fun c_98 => ?_)
          refine lv_aload_n hx hb dX12_feed_101 rfl (lv_at hl 0 rfl) ?_
          refine q_get hC hW kX12_41 0 (Mg0 cc ad (LX12_feed_93_S S k)) (v := .ref (ad 11)) rfl dX12_feed_102 ?_
          refine lv_bipush (v := 8) hx hb dX12_feed_105 (by decide) ?_
          refine lv_iload_n hx hb dX12_feed_107 rfl (lv_at hl 1 rfl) ?_
          refine lv_imul hx hb dX12_feed_108 ?_
          refine q_ri (v := nI (8 * k)) (nq_mul (a := 8) (b := k) rfl rfl) ?_
          refine lv_iconst (v := 4) hx hb dX12_feed_109 (by decide) ?_
          refine lv_iadd hx hb dX12_feed_110 ?_
          refine q_ri (v := nI (8 * k + 4)) ((nq_add (a := (8 * k)) (b := 4) rfl rfl).trans (congrArg nI (by omega))) ?_
          refine lv_dup2_11 hx hb dX12_feed_111 rfl rfl ?_
          refine q_lald hC hW 11 (Mg11 cc ad (LX12_feed_93_S S k)) (v := ((LX12_feed_93_S S k).2 11 (8 * k + 4))) (8 * k + 4) rfl (by omega) (by decide) rfl dX12_feed_112 ?_
          refine lv_aload_n hx hb dX12_feed_113 rfl (lv_at hl 0 rfl) ?_
          refine q_get hC hW kX12_59 0 (Mg0 cc ad (LX12_feed_93_S S k)) (v := .ref (ad 17)) rfl dX12_feed_114 ?_
          refine lv_iload_n hx hb dX12_feed_117 rfl (lv_at hl 1 rfl) ?_
          refine lv_iconst (v := 1) hx hb dX12_feed_118 (by decide) ?_
          refine lv_iadd hx hb dX12_feed_119 ?_
          refine q_ri (v := nI (k + 1)) (nq_add (a := k) (b := 1) rfl rfl) ?_
          refine q_lald hC hW 17 (Mg17 cc ad (LX12_feed_93_S S k)) (v := ((LX12_feed_2_S S (cN S + 1)).2 17 (k + 1))) (k + 1) rfl (by omega) (by decide) ((L4_feed  S k 17 (k + 1) (by omega))) dX12_feed_120 ?_
          refine lv_ladd hx hb dX12_feed_121 ?_
          refine q_last hC hW 11 (Mg11 cc ad (LX12_feed_93_S S k)) (8 * k + 4) rfl (by omega) (by decide) (Ms11 cc ad (LX12_feed_93_S S k) (8 * k + 4) (((LX12_feed_93_S S k).2 11 (8 * k + 4)) + ((LX12_feed_2_S S (cN S + 1)).2 17 (k + 1)))) dX12_feed_122 (fun H locs hW => ?_)
          refine lv_aload_n hx hb dX12_feed_123 rfl (lv_at hl 0 rfl) ?_
          refine q_get hC hW kX12_41 0 (Mg0 cc ad (sJ (LX12_feed_93_S S k) 11 (8 * k + 4) (((LX12_feed_93_S S k).2 11 (8 * k + 4)) + ((LX12_feed_2_S S (cN S + 1)).2 17 (k + 1))))) (v := .ref (ad 11)) rfl dX12_feed_124 ?_
          refine lv_bipush (v := 8) hx hb dX12_feed_127 (by decide) ?_
          refine lv_iload_n hx hb dX12_feed_129 rfl (lv_at hl 1 rfl) ?_
          refine lv_imul hx hb dX12_feed_130 ?_
          refine q_ri (v := nI (8 * k)) (nq_mul (a := 8) (b := k) rfl rfl) ?_
          refine lv_iconst (v := 0) hx hb dX12_feed_131 (by decide) ?_
          refine lv_iadd hx hb dX12_feed_132 ?_
          refine q_ri (v := nI (8 * k)) ((nq_add (a := (8 * k)) (b := 0) rfl rfl).trans (congrArg nI (by omega))) ?_
          refine lv_dup2_11 hx hb dX12_feed_133 rfl rfl ?_
          refine q_lald hC hW 11 (Mg11 cc ad (sJ (LX12_feed_93_S S k) 11 (8 * k + 4) (((LX12_feed_93_S S k).2 11 (8 * k + 4)) + ((LX12_feed_2_S S (cN S + 1)).2 17 (k + 1))))) (v := ((LX12_feed_93_S S k).2 11 (8 * k))) (8 * k) rfl (by omega) (by decide) (rJ_ne (LX12_feed_93_S S k) 11 (8 * k + 4) (((LX12_feed_93_S S k).2 11 (8 * k + 4)) + ((LX12_feed_2_S S (cN S + 1)).2 17 (k + 1))) (8 * k) (by omega)) dX12_feed_134 ?_
          refine lv_aload_n hx hb dX12_feed_135 rfl (lv_at hl 0 rfl) ?_
          refine q_get hC hW kX12_59 0 (Mg0 cc ad (sJ (LX12_feed_93_S S k) 11 (8 * k + 4) (((LX12_feed_93_S S k).2 11 (8 * k + 4)) + ((LX12_feed_2_S S (cN S + 1)).2 17 (k + 1))))) (v := .ref (ad 17)) rfl dX12_feed_136 ?_
          refine lv_iload_n hx hb dX12_feed_139 rfl (lv_at hl 1 rfl) ?_
          refine q_lald hC hW 17 (Mg17 cc ad (sJ (LX12_feed_93_S S k) 11 (8 * k + 4) (((LX12_feed_93_S S k).2 11 (8 * k + 4)) + ((LX12_feed_2_S S (cN S + 1)).2 17 (k + 1))))) (v := ((LX12_feed_2_S S (cN S + 1)).2 17 k)) k rfl (by omega) (by decide) ((L4_feed  S k 17 k (by omega))) dX12_feed_140 ?_
          refine lv_aload_n hx hb dX12_feed_141 rfl (lv_at hl 0 rfl) ?_
          refine q_get hC hW kX12_59 0 (Mg0 cc ad (sJ (LX12_feed_93_S S k) 11 (8 * k + 4) (((LX12_feed_93_S S k).2 11 (8 * k + 4)) + ((LX12_feed_2_S S (cN S + 1)).2 17 (k + 1))))) (v := .ref (ad 17)) rfl dX12_feed_142 ?_
          refine lv_iload_n hx hb dX12_feed_145 rfl (lv_at hl 1 rfl) ?_
          refine lv_iconst (v := 1) hx hb dX12_feed_146 (by decide) ?_
          refine lv_iadd hx hb dX12_feed_147 ?_
          refine q_ri (v := nI (k + 1)) (nq_add (a := k) (b := 1) rfl rfl) ?_
          refine q_lald hC hW 17 (Mg17 cc ad (sJ (LX12_feed_93_S S k) 11 (8 * k + 4) (((LX12_feed_93_S S k).2 11 (8 * k + 4)) + ((LX12_feed_2_S S (cN S + 1)).2 17 (k + 1))))) (v := ((LX12_feed_2_S S (cN S + 1)).2 17 (k + 1))) (k + 1) rfl (by omega) (by decide) ((L4_feed  S k 17 (k + 1) (by omega))) dX12_feed_148 ?_
          refine lv_lsub hx hb dX12_feed_149 ?_
          refine lv_ladd hx hb dX12_feed_150 ?_
          refine q_last hC hW 11 (Mg11 cc ad (sJ (LX12_feed_93_S S k) 11 (8 * k + 4) (((LX12_feed_93_S S k).2 11 (8 * k + 4)) + ((LX12_feed_2_S S (cN S + 1)).2 17 (k + 1))))) (8 * k) rfl (by omega) (by decide) (Ms11 cc ad (sJ (LX12_feed_93_S S k) 11 (8 * k + 4) (((LX12_feed_93_S S k).2 11 (8 * k + 4)) + ((LX12_feed_2_S S (cN S + 1)).2 17 (k + 1)))) (8 * k) (((LX12_feed_93_S S k).2 11 (8 * k)) + (((LX12_feed_2_S S (cN S + 1)).2 17 k) - ((LX12_feed_2_S S (cN S + 1)).2 17 (k + 1))))) dX12_feed_151 (fun H locs hW => ?_)
          refine lv_iinc (v := (nI (k + 1))) (lv' := [(1, .int (nI (k + 1))), (0, .ref (ad 0))]) hx hb dX12_feed_152 hl (k := 1) rfl (nq_inc k 1) (by decide) rfl (fun ls hl => ?_)
          refine lv_goto (tgt := 93) hx hb dX12_feed_155 (by decide) ?_
          exact ih (k + 1) (by omega) _ _ _ (by simp only [LX12_feed_93_S]; exact hW) (lv_sub hl [1, 0] rfl)
      exact loop2 (cN S) 0 (by omega) _ _ _ hW (lv_sub hl [1, 0] rfl)
    | succ rn ih =>
      intro k hk H locs ls hW hl
      have hkN : k < (cN S + 1) := by omega
      refine lv_iload_n hx hb dX12_feed_2 rfl (lv_at hl 1 rfl) ?_
      refine lv_aload_n hx hb dX12_feed_3 rfl (lv_at hl 0 rfl) ?_
      refine q_get hC hW kX12_69 0 (Mg0 cc ad (LX12_feed_2_S S k)) (v := .int (nI (cN S))) (congrArg (fun z => some (Value.int z)) (((L1_feed  S k 0 0)).trans hI.1.1)) dX12_feed_4 ?_
      refine q_icmp_gt_n (tgt := 75) hx hb (a := k) (b := (cN S)) rfl rfl (by omega) (by omega) dX12_feed_7 (by decide) (fun c_7 => by exfalso; omega) (fun c_7 => ?_)
      refine lv_aload_n hx hb dX12_feed_10 rfl (lv_at hl 0 rfl) ?_
      refine lv_iload_n hx hb dX12_feed_11 rfl (lv_at hl 1 rfl) ?_
      refine q_VL hC hW (c_X12_speed l D cc ad (LX12_feed_2_S S k) k (by omega)) mX12_180 0 (Mg0 cc ad (LX12_feed_2_S S k)) rfl (by decide) rfl hl.1 rfl (Nat.le_of_ble_eq_true rfl) (by decide) dX12_feed_12 (fun H locs hW => ?_)
      refine lv_lstore_n (lv' := [(2, .long (sX12_speed (LX12_feed_2_S S k) k)), (0, .ref (ad 0)), (1, .int (nI k))]) hx hb dX12_feed_15 rfl hl (by decide) rfl (fun ls hl => ?_)
      refine lv_aload_n hx hb dX12_feed_16 rfl (lv_at hl 1 rfl) ?_
      refine q_get hC hW kX12_59 0 (Mg0 cc ad (LX12_feed_2_S S k)) (v := .ref (ad 17)) rfl dX12_feed_17 ?_
      refine lv_iload_n hx hb dX12_feed_20 rfl (lv_at hl 2 rfl) ?_
      refine lv_iload_n hx hb dX12_feed_21 rfl (lv_at hl 2 rfl) ?_
      refine q_if_ne_n (tgt := 44) hx hb (a := k) rfl (by omega) dX12_feed_22 (by decide) (fun c_22 => ?_) (fun c_22 => ?_)
      · skip
        refine lv_lload_n hx hb dX12_feed_44 rfl (lv_at hl 0 rfl) ?_
        refine lv_aload_n hx hb dX12_feed_45 rfl (lv_at hl 1 rfl) ?_
        refine q_get hC hW kX12_41 0 (Mg0 cc ad (LX12_feed_2_S S k)) (v := .ref (ad 11)) rfl dX12_feed_46 ?_
        refine lv_bipush (v := 8) hx hb dX12_feed_49 (by decide) ?_
        refine lv_iload_n hx hb dX12_feed_51 rfl (lv_at hl 2 rfl) ?_
        refine lv_imul hx hb dX12_feed_52 ?_
        refine q_ri (v := nI (8 * k)) (nq_mul (a := 8) (b := k) rfl rfl) ?_
        refine lv_bipush (v := 8) hx hb dX12_feed_53 (by decide) ?_
        refine lv_isub hx hb dX12_feed_55 ?_
        refine q_ri (v := nI ((8 * k) - 8)) (nq_sub (a := (8 * k)) (b := 8) rfl rfl (by omega)) ?_
        refine lv_iconst (v := 0) hx hb dX12_feed_56 (by decide) ?_
        refine lv_iadd hx hb dX12_feed_57 ?_
        refine q_ri (v := nI ((8 * k) - 8)) ((nq_add (a := ((8 * k) - 8)) (b := 0) rfl rfl).trans (congrArg nI (by omega))) ?_
        refine q_lald hC hW 11 (Mg11 cc ad (LX12_feed_2_S S k)) (v := (S.2 11 ((8 * k) - 8))) ((8 * k) - 8) rfl (by omega) (by decide) ((L2_feed  S k 11 ((8 * k) - 8) (by decide))) dX12_feed_58 ?_
        refine lv_lmul hx hb dX12_feed_59 ?_
        refine lv_aload_n hx hb dX12_feed_60 rfl (lv_at hl 1 rfl) ?_
        refine lv_iload_n hx hb dX12_feed_61 rfl (lv_at hl 2 rfl) ?_
        refine lv_iconst (v := 1) hx hb dX12_feed_62 (by decide) ?_
        refine lv_isub hx hb dX12_feed_63 ?_
        refine q_ri (v := nI (k - 1)) (nq_sub (a := k) (b := 1) rfl rfl (by omega)) ?_
        refine q_VL hC hW (c_X12_length l D cc ad (LX12_feed_2_S S k) (k - 1) (by omega)) mX12_131 0 (Mg0 cc ad (LX12_feed_2_S S k)) rfl (by decide) rfl hl.1 rfl (Nat.le_of_ble_eq_true rfl) (by decide) dX12_feed_64 (fun H locs hW => ?_)
        refine lv_ldiv hx hb dX12_feed_67 (by rw [len_feed]; exact hlen _ (by omega)) ?_
        refine q_last hC hW 17 (Mg17 cc ad (LX12_feed_2_S S k)) k rfl (by omega) (by decide) (Ms17 cc ad (LX12_feed_2_S S k) k (((sX12_speed (LX12_feed_2_S S k) k) * (S.2 11 ((8 * k) - 8))) / (sX12_length (LX12_feed_2_S S k) (k - 1)))) dX12_feed_68 (fun H locs hW => ?_)
        refine lv_iinc (v := (nI (k + 1))) (lv' := [(1, .int (nI (k + 1))), (2, .long (sX12_speed (LX12_feed_2_S S k) k)), (0, .ref (ad 0))]) hx hb dX12_feed_69 hl (k := 2) rfl (nq_inc k 1) (by decide) rfl (fun ls hl => ?_)
        refine lv_goto (tgt := 2) hx hb dX12_feed_72 (by decide) ?_
        exact ih (k + 1) (by omega) _ _ _ (by simp only [LX12_feed_2_S, if_neg c_22]; exact hW) (lv_sub hl [2, 0] rfl)
      · skip
        refine lv_lload_n hx hb dX12_feed_25 rfl (lv_at hl 0 rfl) ?_
        refine lv_aload_n hx hb dX12_feed_26 rfl (lv_at hl 1 rfl) ?_
        refine q_get hC hW kX12_75 0 (Mg0 cc ad (LX12_feed_2_S S k)) (v := .long (S.2 0 0)) (congrArg (fun z => some (Value.long z)) ((L2_feed  S k 0 0 (by decide)))) dX12_feed_27 ?_
        refine lv_lmul hx hb dX12_feed_30 ?_
        refine lv_aload_n hx hb dX12_feed_31 rfl (lv_at hl 1 rfl) ?_
        refine q_get hC hW kX12_75 0 (Mg0 cc ad (LX12_feed_2_S S k)) (v := .long (S.2 0 0)) (congrArg (fun z => some (Value.long z)) ((L2_feed  S k 0 0 (by decide)))) dX12_feed_32 ?_
        refine lv_aload_n hx hb dX12_feed_35 rfl (lv_at hl 1 rfl) ?_
        refine q_get hC hW kX12_79 0 (Mg0 cc ad (LX12_feed_2_S S k)) (v := .long (S.2 0 1)) (congrArg (fun z => some (Value.long z)) ((L2_feed  S k 0 1 (by decide)))) dX12_feed_36 ?_
        refine lv_ladd hx hb dX12_feed_39 ?_
        refine lv_ldiv hx hb dX12_feed_40 hKW ?_
        refine lv_goto (tgt := 68) hx hb dX12_feed_41 (by decide) ?_
        refine q_last hC hW 17 (Mg17 cc ad (LX12_feed_2_S S k)) k rfl (by omega) (by decide) (Ms17 cc ad (LX12_feed_2_S S k) k (((sX12_speed (LX12_feed_2_S S k) k) * (S.2 0 0)) / ((S.2 0 0) + (S.2 0 1)))) dX12_feed_68 (fun H locs hW => ?_)
        refine lv_iinc (v := (nI (k + 1))) (lv' := [(1, .int (nI (k + 1))), (2, .long (sX12_speed (LX12_feed_2_S S k) k)), (0, .ref (ad 0))]) hx hb dX12_feed_69 hl (k := 2) rfl (nq_inc k 1) (by decide) rfl (fun ls hl => ?_)
        refine lv_goto (tgt := 2) hx hb dX12_feed_72 (by decide) ?_
        exact ih (k + 1) (by omega) _ _ _ (by simp only [LX12_feed_2_S, if_pos c_22]; exact hW) (lv_sub hl [2, 0] rfl)
  exact loop1 (cN S + 1) 0 (by omega) _ _ _ hW (lv_sub hl [1, 0] rfl)
theorem I_X12_feed (S : St) : (sX12_feed_S S).1 = S.1 := by
  funext a b
  exact (L3_feed S _ a b).trans (L1_feed S _ a b)
theorem hi_X12_feed (S : St) (b : Nat) (hn : cN S ≤ 6) (h : 48 ≤ b ∧ ¬ b = 61) : (sX12_feed_S S).2 11 b = S.2 11 b := by
  refine (L4_feed S _ 11 b (by omega) hn).trans ?_
  show (sJ _ 11 61 _).2 11 b = _
  rw [rJ_sk _ _ _ _ _ _ (by omega)]
  exact L2_feed S _ 11 b (by decide)
theorem inv_X12_feed (S : St) (hI : InvM S) : InvM (sX12_feed_S S) :=
  hI.keep (by rw [I_X12_feed]) (hi_X12_feed S 52 hI.1.2.2 (by decide)) (hi_X12_feed S 62 hI.1.2.2 (by decide)) (hi_X12_feed S 63 hI.1.2.2 (by decide))
def LX12_unwind_158_S (S : St)  : Nat → St
  | 0 => (sJ (sJ (sJ (sJ (sX12_happens_S (sJ S 11 51 ((S.2 11 51) - (S.2 17 0))) 0 0 (mH S)) 15 (mM S) ((S.2 11 61) + ((S.2 11 51) - (S.2 17 0)))) 11 62 (lN ((mM S) + 1))) 11 51 (((S.2 11 51) - (S.2 17 0)) + (S.2 11 53))) 11 52 (lN ((mQ S) - 1)))
  | k + 1 => (sJ (LX12_unwind_158_S S k) 11 (53 + k) ((LX12_unwind_158_S S k).2 11 ((53 + k) + 1)))
theorem L1_unwind (S : St) (k a b : Nat) : (LX12_unwind_158_S S k).1 a b = (LX12_unwind_158_S S 0).1 a b := by
  induction k with
  | zero => rfl
  | succ k ih => exact ih
theorem L2_unwind (S : St) (k a b : Nat) (hab : ¬ a = 11 ∨ b < 53 ∨ 57 < b) (hk : k ≤ 4 := by omega) : (LX12_unwind_158_S S k).2 a b = (LX12_unwind_158_S S 0).2 a b := by
  induction k with
  | zero => rfl
  | succ k ih =>
    rw [← ih (by omega)]
    conv => lhs; unfold LX12_unwind_158_S
    rw [rJ_sk _ _ _ _ _ _ (by omega)]
def sX12_unwind_S (S : St)  : St := (if ((S.2 11 51) - (S.2 17 0)) < 0 then (if (mQ S) = 0 then (sX12_happens_S (sJ (sJ S 11 51 ((S.2 11 51) - (S.2 17 0))) 11 49 2) 4 0 (mH S)) else (if (S.2 11 50) ≤ (S.2 0 6) then (LX12_unwind_158_S S (mQ S - 1)) else (sX12_breaks_S (sJ S 11 51 ((S.2 11 51) - (S.2 17 0))) (-1)))) else (sJ S 11 51 ((S.2 11 51) - (S.2 17 0))))
set_option maxHeartbeats 4000000 in
set_option maxRecDepth 100000 in
theorem c_X12_unwind (l : Launch) (D : va_G) (cc : Nat → ClassId) (ad : Nat → Nat) (S : St) (hI : InvM S) : CtV l D cc yX12_unwind cX12_unwind 2 2 [.ref (ad 0)] (MW cc ad S) (MW cc ad (sX12_unwind_S S )) := by
  refine CtV.of (plainFor_of_name (by decide +kernel)) (Nat.le_of_ble_eq_true rfl) ?_
  intro p e s m args below meth c A Q hC hW hend ls hl
  obtain ⟨⟨hx, hb, hml, hown, hts⟩, hNW⟩ := id hC
  have hl : lv_has ls 2 [(0, .ref (ad 0))] := hl
  obtain ⟨⟨-, hn1_hI, hn2_hI⟩, ⟨-, hq_hI⟩, -, ⟨-, hh_hI⟩, hs_hI⟩ := id hI
  refine lv_aload_n hx hb dX12_unwind_0 rfl (lv_at hl 0 rfl) ?_
  refine q_get hC hW kX12_41 0 (Mg0 cc ad S) (v := .ref (ad 11)) rfl dX12_unwind_1 ?_
  refine lv_bipush (v := 51) hx hb dX12_unwind_4 (by decide) ?_
  refine lv_dup2_11 hx hb dX12_unwind_6 rfl rfl ?_
  refine q_lald hC hW 11 (Mg11 cc ad S) (v := (S.2 11 51)) 51 rfl (by omega) (by decide) rfl dX12_unwind_7 ?_
  refine lv_aload_n hx hb dX12_unwind_8 rfl (lv_at hl 0 rfl) ?_
  refine q_get hC hW kX12_59 0 (Mg0 cc ad S) (v := .ref (ad 17)) rfl dX12_unwind_9 ?_
  refine lv_iconst (v := 0) hx hb dX12_unwind_12 (by decide) ?_
  refine q_lald hC hW 17 (Mg17 cc ad S) (v := (S.2 17 0)) 0 rfl (by omega) (by decide) rfl dX12_unwind_13 ?_
  refine lv_lsub hx hb dX12_unwind_14 ?_
  refine q_last hC hW 11 (Mg11 cc ad S) 51 rfl (by omega) (by decide) (Ms11 cc ad S 51 ((S.2 11 51) - (S.2 17 0))) dX12_unwind_15 (fun H locs hW => ?_)
  refine lv_aload_n hx hb dX12_unwind_16 rfl (lv_at hl 0 rfl) ?_
  refine q_get hC hW kX12_41 0 (Mg0 cc ad (sJ S 11 51 ((S.2 11 51) - (S.2 17 0)))) (v := .ref (ad 11)) rfl dX12_unwind_17 ?_
  refine lv_bipush (v := 51) hx hb dX12_unwind_20 (by decide) ?_
  refine q_lald hC hW 11 (Mg11 cc ad (sJ S 11 51 ((S.2 11 51) - (S.2 17 0)))) (v := ((S.2 11 51) - (S.2 17 0))) 51 rfl (by omega) (by decide) rfl dX12_unwind_22 ?_
  refine lv_lconst (v := 0) hx hb dX12_unwind_23 rfl ?_
  refine q_jlt (tgt := 29) hC dX12_unwind_24 dX12_unwind_25 (by decide) (fun c_24 => ?_) (fun c_24 => ?_)
  · skip
    refine lv_aload_n hx hb dX12_unwind_29 rfl (lv_at hl 0 rfl) ?_
    refine q_get hC hW kX12_41 0 (Mg0 cc ad (sJ S 11 51 ((S.2 11 51) - (S.2 17 0)))) (v := .ref (ad 11)) rfl dX12_unwind_30 ?_
    refine lv_bipush (v := 52) hx hb dX12_unwind_33 (by decide) ?_
    refine q_lald hC hW 11 (Mg11 cc ad (sJ S 11 51 ((S.2 11 51) - (S.2 17 0)))) (v := (lN (mQ S))) 52 rfl (by omega) (by decide) hI.2.1.1 dX12_unwind_35 ?_
    refine lv_lconst (v := 0) hx hb dX12_unwind_36 rfl ?_
    refine q_jne_n (tgt := 60) hC (a := (mQ S)) (b2 := 0) rfl rfl (by omega) (by omega) dX12_unwind_37 dX12_unwind_38 (by decide) (fun c_37 => ?_) (fun c_37 => ?_)
    · skip
      refine lv_aload_n hx hb dX12_unwind_60 rfl (lv_at hl 0 rfl) ?_
      refine q_get hC hW kX12_41 0 (Mg0 cc ad (sJ S 11 51 ((S.2 11 51) - (S.2 17 0)))) (v := .ref (ad 11)) rfl dX12_unwind_61 ?_
      refine lv_bipush (v := 50) hx hb dX12_unwind_64 (by decide) ?_
      refine q_lald hC hW 11 (Mg11 cc ad (sJ S 11 51 ((S.2 11 51) - (S.2 17 0)))) (v := (S.2 11 50)) 50 rfl (by omega) (by decide) rfl dX12_unwind_66 ?_
      refine lv_aload_n hx hb dX12_unwind_67 rfl (lv_at hl 0 rfl) ?_
      refine q_get hC hW kX12_100 0 (Mg0 cc ad (sJ S 11 51 ((S.2 11 51) - (S.2 17 0)))) (v := .long (S.2 0 6)) rfl dX12_unwind_68 ?_
      refine q_jle (tgt := 83) hC dX12_unwind_71 dX12_unwind_72 (by decide) (fun c_71 => ?_) (fun c_71 => ?_)
      · skip
        refine lv_aload_n hx hb dX12_unwind_83 rfl (lv_at hl 0 rfl) ?_
        refine lv_iconst (v := 0) hx hb dX12_unwind_84 (by decide) ?_
        refine lv_lconst (v := 0) hx hb dX12_unwind_85 rfl ?_
        refine q_VV hC hW (c_X12_happens l D cc ad (sJ S 11 51 ((S.2 11 51) - (S.2 17 0))) 0 0 (mH S) hI.2.2.2.1.1 (by omega)) mX12_172 0 (Mg0 cc ad (sJ S 11 51 ((S.2 11 51) - (S.2 17 0)))) rfl (by decide) rfl hl.1 rfl (Nat.le_of_ble_eq_true rfl) (by decide) dX12_unwind_86 (fun H locs hW => ?_)
        have hI_1 : InvM (sX12_happens_S (sJ S 11 51 ((S.2 11 51) - (S.2 17 0))) 0 0 (mH S)) := inv_X12_happens (sJ S 11 51 ((S.2 11 51) - (S.2 17 0))) 0 0 (mH S) hI.2.2.2.1.1 (by omega) hI
        obtain ⟨⟨-, hn1_hI_1, hn2_hI_1⟩, ⟨-, hq_hI_1⟩, -, ⟨-, hh_hI_1⟩, hs_hI_1⟩ := id hI_1
        refine lv_aload_n hx hb dX12_unwind_89 rfl (lv_at hl 0 rfl) ?_
        refine q_get hC hW kX12_53 0 (Mg0 cc ad (sX12_happens_S (sJ S 11 51 ((S.2 11 51) - (S.2 17 0))) 0 0 (mH S))) (v := .ref (ad 15)) rfl dX12_unwind_90 ?_
        refine lv_aload_n hx hb dX12_unwind_93 rfl (lv_at hl 0 rfl) ?_
        refine q_get hC hW kX12_41 0 (Mg0 cc ad (sX12_happens_S (sJ S 11 51 ((S.2 11 51) - (S.2 17 0))) 0 0 (mH S))) (v := .ref (ad 11)) rfl dX12_unwind_94 ?_
        refine lv_bipush (v := 62) hx hb dX12_unwind_97 (by decide) ?_
        refine q_lald hC hW 11 (Mg11 cc ad (sX12_happens_S (sJ S 11 51 ((S.2 11 51) - (S.2 17 0))) 0 0 (mH S))) (v := (lN (mM S))) 62 rfl (by omega) (by decide) (((t2_X12_happens  (sJ S 11 51 ((S.2 11 51) - (S.2 17 0))) 0 0 (mH S) 11 62 (by omega))).trans hI.2.2.1) dX12_unwind_99 ?_
        refine lv_l2i (v := nI (mM S)) hx hb dX12_unwind_100 (lN_i _) ?_
        refine lv_aload_n hx hb dX12_unwind_101 rfl (lv_at hl 0 rfl) ?_
        refine q_get hC hW kX12_41 0 (Mg0 cc ad (sX12_happens_S (sJ S 11 51 ((S.2 11 51) - (S.2 17 0))) 0 0 (mH S))) (v := .ref (ad 11)) rfl dX12_unwind_102 ?_
        refine lv_bipush (v := 61) hx hb dX12_unwind_105 (by decide) ?_
        refine q_lald hC hW 11 (Mg11 cc ad (sX12_happens_S (sJ S 11 51 ((S.2 11 51) - (S.2 17 0))) 0 0 (mH S))) (v := (S.2 11 61)) 61 rfl (by omega) (by decide) ((t2_X12_happens  (sJ S 11 51 ((S.2 11 51) - (S.2 17 0))) 0 0 (mH S) 11 61 (by omega))) dX12_unwind_107 ?_
        refine lv_aload_n hx hb dX12_unwind_108 rfl (lv_at hl 0 rfl) ?_
        refine q_get hC hW kX12_41 0 (Mg0 cc ad (sX12_happens_S (sJ S 11 51 ((S.2 11 51) - (S.2 17 0))) 0 0 (mH S))) (v := .ref (ad 11)) rfl dX12_unwind_109 ?_
        refine lv_bipush (v := 51) hx hb dX12_unwind_112 (by decide) ?_
        refine q_lald hC hW 11 (Mg11 cc ad (sX12_happens_S (sJ S 11 51 ((S.2 11 51) - (S.2 17 0))) 0 0 (mH S))) (v := ((S.2 11 51) - (S.2 17 0))) 51 rfl (by omega) (by decide) ((t2_X12_happens  (sJ S 11 51 ((S.2 11 51) - (S.2 17 0))) 0 0 (mH S) 11 51 (by omega))) dX12_unwind_114 ?_
        refine lv_ladd hx hb dX12_unwind_115 ?_
        refine q_last hC hW 15 (Mg15 cc ad (sX12_happens_S (sJ S 11 51 ((S.2 11 51) - (S.2 17 0))) 0 0 (mH S))) (mM S) rfl (by omega) (by decide) (Ms15 cc ad (sX12_happens_S (sJ S 11 51 ((S.2 11 51) - (S.2 17 0))) 0 0 (mH S)) (mM S) ((S.2 11 61) + ((S.2 11 51) - (S.2 17 0)))) dX12_unwind_116 (fun H locs hW => ?_)
        refine lv_aload_n hx hb dX12_unwind_117 rfl (lv_at hl 0 rfl) ?_
        refine q_get hC hW kX12_41 0 (Mg0 cc ad (sJ (sX12_happens_S (sJ S 11 51 ((S.2 11 51) - (S.2 17 0))) 0 0 (mH S)) 15 (mM S) ((S.2 11 61) + ((S.2 11 51) - (S.2 17 0))))) (v := .ref (ad 11)) rfl dX12_unwind_118 ?_
        refine lv_bipush (v := 62) hx hb dX12_unwind_121 (by decide) ?_
        refine lv_dup2_11 hx hb dX12_unwind_123 rfl rfl ?_
        refine q_lald hC hW 11 (Mg11 cc ad (sJ (sX12_happens_S (sJ S 11 51 ((S.2 11 51) - (S.2 17 0))) 0 0 (mH S)) 15 (mM S) ((S.2 11 61) + ((S.2 11 51) - (S.2 17 0))))) (v := (lN (mM S))) 62 rfl (by omega) (by decide) (((t2_X12_happens  (sJ S 11 51 ((S.2 11 51) - (S.2 17 0))) 0 0 (mH S) 11 62 (by omega))).trans hI.2.2.1) dX12_unwind_124 ?_
        refine lv_lconst (v := 1) hx hb dX12_unwind_125 rfl ?_
        refine lv_ladd hx hb dX12_unwind_126 ?_
        refine q_rl (v := lN ((mM S) + 1)) (nq_addL (a := (mM S)) (b := 1) rfl rfl) ?_
        refine q_last hC hW 11 (Mg11 cc ad (sJ (sX12_happens_S (sJ S 11 51 ((S.2 11 51) - (S.2 17 0))) 0 0 (mH S)) 15 (mM S) ((S.2 11 61) + ((S.2 11 51) - (S.2 17 0))))) 62 rfl (by omega) (by decide) (Ms11 cc ad (sJ (sX12_happens_S (sJ S 11 51 ((S.2 11 51) - (S.2 17 0))) 0 0 (mH S)) 15 (mM S) ((S.2 11 61) + ((S.2 11 51) - (S.2 17 0)))) 62 (lN ((mM S) + 1))) dX12_unwind_127 (fun H locs hW => ?_)
        refine lv_aload_n hx hb dX12_unwind_128 rfl (lv_at hl 0 rfl) ?_
        refine q_get hC hW kX12_41 0 (Mg0 cc ad (sJ (sJ (sX12_happens_S (sJ S 11 51 ((S.2 11 51) - (S.2 17 0))) 0 0 (mH S)) 15 (mM S) ((S.2 11 61) + ((S.2 11 51) - (S.2 17 0)))) 11 62 (lN ((mM S) + 1)))) (v := .ref (ad 11)) rfl dX12_unwind_129 ?_
        refine lv_bipush (v := 51) hx hb dX12_unwind_132 (by decide) ?_
        refine lv_dup2_11 hx hb dX12_unwind_134 rfl rfl ?_
        refine q_lald hC hW 11 (Mg11 cc ad (sJ (sJ (sX12_happens_S (sJ S 11 51 ((S.2 11 51) - (S.2 17 0))) 0 0 (mH S)) 15 (mM S) ((S.2 11 61) + ((S.2 11 51) - (S.2 17 0)))) 11 62 (lN ((mM S) + 1)))) (v := ((S.2 11 51) - (S.2 17 0))) 51 rfl (by omega) (by decide) ((t2_X12_happens  (sJ S 11 51 ((S.2 11 51) - (S.2 17 0))) 0 0 (mH S) 11 51 (by omega))) dX12_unwind_135 ?_
        refine lv_aload_n hx hb dX12_unwind_136 rfl (lv_at hl 0 rfl) ?_
        refine q_get hC hW kX12_41 0 (Mg0 cc ad (sJ (sJ (sX12_happens_S (sJ S 11 51 ((S.2 11 51) - (S.2 17 0))) 0 0 (mH S)) 15 (mM S) ((S.2 11 61) + ((S.2 11 51) - (S.2 17 0)))) 11 62 (lN ((mM S) + 1)))) (v := .ref (ad 11)) rfl dX12_unwind_137 ?_
        refine lv_bipush (v := 53) hx hb dX12_unwind_140 (by decide) ?_
        refine q_lald hC hW 11 (Mg11 cc ad (sJ (sJ (sX12_happens_S (sJ S 11 51 ((S.2 11 51) - (S.2 17 0))) 0 0 (mH S)) 15 (mM S) ((S.2 11 61) + ((S.2 11 51) - (S.2 17 0)))) 11 62 (lN ((mM S) + 1)))) (v := (S.2 11 53)) 53 rfl (by omega) (by decide) ((t2_X12_happens  (sJ S 11 51 ((S.2 11 51) - (S.2 17 0))) 0 0 (mH S) 11 53 (by omega))) dX12_unwind_142 ?_
        refine lv_ladd hx hb dX12_unwind_143 ?_
        refine q_last hC hW 11 (Mg11 cc ad (sJ (sJ (sX12_happens_S (sJ S 11 51 ((S.2 11 51) - (S.2 17 0))) 0 0 (mH S)) 15 (mM S) ((S.2 11 61) + ((S.2 11 51) - (S.2 17 0)))) 11 62 (lN ((mM S) + 1)))) 51 rfl (by omega) (by decide) (Ms11 cc ad (sJ (sJ (sX12_happens_S (sJ S 11 51 ((S.2 11 51) - (S.2 17 0))) 0 0 (mH S)) 15 (mM S) ((S.2 11 61) + ((S.2 11 51) - (S.2 17 0)))) 11 62 (lN ((mM S) + 1))) 51 (((S.2 11 51) - (S.2 17 0)) + (S.2 11 53))) dX12_unwind_144 (fun H locs hW => ?_)
        refine lv_aload_n hx hb dX12_unwind_145 rfl (lv_at hl 0 rfl) ?_
        refine q_get hC hW kX12_41 0 (Mg0 cc ad (sJ (sJ (sJ (sX12_happens_S (sJ S 11 51 ((S.2 11 51) - (S.2 17 0))) 0 0 (mH S)) 15 (mM S) ((S.2 11 61) + ((S.2 11 51) - (S.2 17 0)))) 11 62 (lN ((mM S) + 1))) 11 51 (((S.2 11 51) - (S.2 17 0)) + (S.2 11 53)))) (v := .ref (ad 11)) rfl dX12_unwind_146 ?_
        refine lv_bipush (v := 52) hx hb dX12_unwind_149 (by decide) ?_
        refine lv_dup2_11 hx hb dX12_unwind_151 rfl rfl ?_
        refine q_lald hC hW 11 (Mg11 cc ad (sJ (sJ (sJ (sX12_happens_S (sJ S 11 51 ((S.2 11 51) - (S.2 17 0))) 0 0 (mH S)) 15 (mM S) ((S.2 11 61) + ((S.2 11 51) - (S.2 17 0)))) 11 62 (lN ((mM S) + 1))) 11 51 (((S.2 11 51) - (S.2 17 0)) + (S.2 11 53)))) (v := (lN (mQ S))) 52 rfl (by omega) (by decide) (((t2_X12_happens  (sJ S 11 51 ((S.2 11 51) - (S.2 17 0))) 0 0 (mH S) 11 52 (by omega))).trans hI.2.1.1) dX12_unwind_152 ?_
        refine lv_lconst (v := 1) hx hb dX12_unwind_153 rfl ?_
        refine lv_lsub hx hb dX12_unwind_154 ?_
        refine q_rl (v := lN ((mQ S) - 1)) (nq_subL (a := (mQ S)) (b := 1) rfl rfl (by omega)) ?_
        refine q_last hC hW 11 (Mg11 cc ad (sJ (sJ (sJ (sX12_happens_S (sJ S 11 51 ((S.2 11 51) - (S.2 17 0))) 0 0 (mH S)) 15 (mM S) ((S.2 11 61) + ((S.2 11 51) - (S.2 17 0)))) 11 62 (lN ((mM S) + 1))) 11 51 (((S.2 11 51) - (S.2 17 0)) + (S.2 11 53)))) 52 rfl (by omega) (by decide) (Ms11 cc ad (sJ (sJ (sJ (sX12_happens_S (sJ S 11 51 ((S.2 11 51) - (S.2 17 0))) 0 0 (mH S)) 15 (mM S) ((S.2 11 61) + ((S.2 11 51) - (S.2 17 0)))) 11 62 (lN ((mM S) + 1))) 11 51 (((S.2 11 51) - (S.2 17 0)) + (S.2 11 53))) 52 (lN ((mQ S) - 1))) dX12_unwind_155 (fun H locs hW => ?_)
        refine lv_iconst (v := 0) hx hb dX12_unwind_156 (by decide) ?_
        refine lv_istore_n (lv' := [(1, .int 0), (0, .ref (ad 0))]) hx hb dX12_unwind_157 rfl hl (by decide) rfl (fun ls hl => ?_)
        have loop1 : ∀ (rn k : Nat), k + rn = (mQ S - 1) → ∀ (H : Heap) (locs : List Loc) (ls : Array Slot), Wd D cc (MW cc ad (LX12_unwind_158_S S k)) A s.heap H locs s → lv_has ls 2 [(0, .ref (ad 0)), (1, .int (nI k))] → W p l e (rmD 2) s m args below meth c H locs 0 0 Q (F0 m 158 ls []) := by
          intro rn
          induction rn with
          | zero =>
            intro k hk H locs ls hW hl
            obtain rfl : (mQ S - 1) = k := by omega
            refine lv_iload_n hx hb dX12_unwind_158 rfl (lv_at hl 1 rfl) ?_
            refine lv_i2l (v := lN (mQ S - 1)) hx hb dX12_unwind_159 (nI_l (by omega)) ?_
            refine lv_aload_n hx hb dX12_unwind_160 rfl (lv_at hl 0 rfl) ?_
            refine q_get hC hW kX12_41 0 (Mg0 cc ad (LX12_unwind_158_S S (mQ S - 1))) (v := .ref (ad 11)) rfl dX12_unwind_161 ?_
            refine lv_bipush (v := 52) hx hb dX12_unwind_164 (by decide) ?_
            refine q_lald hC hW 11 (Mg11 cc ad (LX12_unwind_158_S S (mQ S - 1))) (v := (lN ((mQ S) - 1))) 52 rfl (by omega) (by decide) ((L2_unwind  S (mQ S - 1) 11 52 (by omega))) dX12_unwind_166 ?_
            refine q_jge_n (tgt := 197) hC (a := (mQ S - 1)) (b2 := ((mQ S) - 1)) rfl rfl (by omega) (by omega) dX12_unwind_167 dX12_unwind_168 (by decide) (fun c_167 => ?_) (fun c_167 => by exfalso; omega)
            exact hend _ _ _ _ _ (by simp only [sX12_unwind_S, if_pos c_24, if_neg c_37, if_pos c_71]) hW dX12_unwind_197
          | succ rn ih =>
            intro k hk H locs ls hW hl
            have hkN : k < (mQ S - 1) := by omega
            refine lv_iload_n hx hb dX12_unwind_158 rfl (lv_at hl 1 rfl) ?_
            refine lv_i2l (v := lN k) hx hb dX12_unwind_159 (nI_l (by omega)) ?_
            refine lv_aload_n hx hb dX12_unwind_160 rfl (lv_at hl 0 rfl) ?_
            refine q_get hC hW kX12_41 0 (Mg0 cc ad (LX12_unwind_158_S S k)) (v := .ref (ad 11)) rfl dX12_unwind_161 ?_
            refine lv_bipush (v := 52) hx hb dX12_unwind_164 (by decide) ?_
            refine q_lald hC hW 11 (Mg11 cc ad (LX12_unwind_158_S S k)) (v := (lN ((mQ S) - 1))) 52 rfl (by omega) (by decide) ((L2_unwind  S k 11 52 (by omega))) dX12_unwind_166 ?_
            refine q_jge_n (tgt := 197) hC (a := k) (b2 := ((mQ S) - 1)) rfl rfl (by omega) (by omega) dX12_unwind_167 dX12_unwind_168 (by decide) (fun c_167 => by exfalso; omega) (fun c_167 => ?_)
            refine lv_aload_n hx hb dX12_unwind_171 rfl (lv_at hl 0 rfl) ?_
            refine q_get hC hW kX12_41 0 (Mg0 cc ad (LX12_unwind_158_S S k)) (v := .ref (ad 11)) rfl dX12_unwind_172 ?_
            refine lv_bipush (v := 53) hx hb dX12_unwind_175 (by decide) ?_
            refine lv_iload_n hx hb dX12_unwind_177 rfl (lv_at hl 1 rfl) ?_
            refine lv_iadd hx hb dX12_unwind_178 ?_
            refine q_ri (v := nI (53 + k)) (nq_add (a := 53) (b := k) rfl rfl) ?_
            refine lv_aload_n hx hb dX12_unwind_179 rfl (lv_at hl 0 rfl) ?_
            refine q_get hC hW kX12_41 0 (Mg0 cc ad (LX12_unwind_158_S S k)) (v := .ref (ad 11)) rfl dX12_unwind_180 ?_
            refine lv_bipush (v := 53) hx hb dX12_unwind_183 (by decide) ?_
            refine lv_iload_n hx hb dX12_unwind_185 rfl (lv_at hl 1 rfl) ?_
            refine lv_iadd hx hb dX12_unwind_186 ?_
            refine q_ri (v := nI (53 + k)) (nq_add (a := 53) (b := k) rfl rfl) ?_
            refine lv_iconst (v := 1) hx hb dX12_unwind_187 (by decide) ?_
            refine lv_iadd hx hb dX12_unwind_188 ?_
            refine q_ri (v := nI ((53 + k) + 1)) (nq_add (a := (53 + k)) (b := 1) rfl rfl) ?_
            refine q_lald hC hW 11 (Mg11 cc ad (LX12_unwind_158_S S k)) (v := ((LX12_unwind_158_S S k).2 11 ((53 + k) + 1))) ((53 + k) + 1) rfl (by omega) (by decide) rfl dX12_unwind_189 ?_
            refine q_last hC hW 11 (Mg11 cc ad (LX12_unwind_158_S S k)) (53 + k) rfl (by omega) (by decide) (Ms11 cc ad (LX12_unwind_158_S S k) (53 + k) ((LX12_unwind_158_S S k).2 11 ((53 + k) + 1))) dX12_unwind_190 (fun H locs hW => ?_)
            refine lv_iinc (v := (nI (k + 1))) (lv' := [(1, .int (nI (k + 1))), (0, .ref (ad 0))]) hx hb dX12_unwind_191 hl (k := 1) rfl (nq_inc k 1) (by decide) rfl (fun ls hl => ?_)
            refine lv_goto (tgt := 158) hx hb dX12_unwind_194 (by decide) ?_
            exact ih (k + 1) (by omega) _ _ _ (by simp only [LX12_unwind_158_S, if_pos c_24, if_neg c_37, if_pos c_71]; exact hW) (lv_sub hl [1, 0] rfl)
        exact loop1 (mQ S - 1) 0 (by omega) _ _ _ hW (lv_sub hl [1, 0] rfl)
      · skip
        refine lv_aload_n hx hb dX12_unwind_75 rfl (lv_at hl 0 rfl) ?_
        refine lv_iconst (v := (-1)) hx hb dX12_unwind_76 (by decide) ?_
        refine q_VV hC hW (c_X12_breaks l D cc ad (sJ S 11 51 ((S.2 11 51) - (S.2 17 0))) (-1) hI) mX12_183 0 (Mg0 cc ad (sJ S 11 51 ((S.2 11 51) - (S.2 17 0)))) rfl (by decide) rfl hl.1 rfl (Nat.le_of_ble_eq_true rfl) (by decide) dX12_unwind_77 (fun H locs hW => ?_)
        have hI_2 : InvM (sX12_breaks_S (sJ S 11 51 ((S.2 11 51) - (S.2 17 0))) (-1)) := inv_X12_breaks (sJ S 11 51 ((S.2 11 51) - (S.2 17 0))) (-1) hI
        obtain ⟨⟨-, hn1_hI_2, hn2_hI_2⟩, ⟨-, hq_hI_2⟩, -, ⟨-, hh_hI_2⟩, hs_hI_2⟩ := id hI_2
        refine lv_goto (tgt := 197) hx hb dX12_unwind_80 (by decide) ?_
        exact hend _ _ _ _ _ (by simp only [sX12_unwind_S, if_pos c_24, if_neg c_37, if_neg c_71]) hW dX12_unwind_197
    · skip
      refine lv_aload_n hx hb dX12_unwind_41 rfl (lv_at hl 0 rfl) ?_
      refine q_get hC hW kX12_41 0 (Mg0 cc ad (sJ S 11 51 ((S.2 11 51) - (S.2 17 0)))) (v := .ref (ad 11)) rfl dX12_unwind_42 ?_
      refine lv_bipush (v := 49) hx hb dX12_unwind_45 (by decide) ?_
      refine q_ldc2 hC nX12_129 dX12_unwind_47 ?_
      refine q_last hC hW 11 (Mg11 cc ad (sJ S 11 51 ((S.2 11 51) - (S.2 17 0)))) 49 rfl (by omega) (by decide) (Ms11 cc ad (sJ S 11 51 ((S.2 11 51) - (S.2 17 0))) 49 2) dX12_unwind_50 (fun H locs hW => ?_)
      refine lv_aload_n hx hb dX12_unwind_51 rfl (lv_at hl 0 rfl) ?_
      refine lv_iconst (v := 4) hx hb dX12_unwind_52 (by decide) ?_
      refine lv_lconst (v := 0) hx hb dX12_unwind_53 rfl ?_
      refine q_VV hC hW (c_X12_happens l D cc ad (sJ (sJ S 11 51 ((S.2 11 51) - (S.2 17 0))) 11 49 2) 4 0 (mH S) hI.2.2.2.1.1 (by omega)) mX12_172 0 (Mg0 cc ad (sJ (sJ S 11 51 ((S.2 11 51) - (S.2 17 0))) 11 49 2)) rfl (by decide) rfl hl.1 rfl (Nat.le_of_ble_eq_true rfl) (by decide) dX12_unwind_54 (fun H locs hW => ?_)
      have hI_3 : InvM (sX12_happens_S (sJ (sJ S 11 51 ((S.2 11 51) - (S.2 17 0))) 11 49 2) 4 0 (mH S)) := inv_X12_happens (sJ (sJ S 11 51 ((S.2 11 51) - (S.2 17 0))) 11 49 2) 4 0 (mH S) hI.2.2.2.1.1 (by omega) hI
      obtain ⟨⟨-, hn1_hI_3, hn2_hI_3⟩, ⟨-, hq_hI_3⟩, -, ⟨-, hh_hI_3⟩, hs_hI_3⟩ := id hI_3
      refine lv_goto (tgt := 197) hx hb dX12_unwind_57 (by decide) ?_
      exact hend _ _ _ _ _ (by simp only [sX12_unwind_S, if_pos c_24, if_pos c_37]) hW dX12_unwind_197
  · skip
    exact hend _ _ _ _ _ (by simp only [sX12_unwind_S, if_neg c_24]) hW dX12_unwind_28
def sX12_rewind_S (S : St)  : St := (if ((S.2 11 57) + (S.2 17 (cN S))) < (S.2 0 8) then (sJ S 11 57 ((S.2 11 57) + (S.2 17 (cN S)))) else (sX12_happens_S (sJ (sJ (sJ S 11 57 ((S.2 11 57) + (S.2 17 (cN S)))) 11 57 (((S.2 11 57) + (S.2 17 (cN S))) - (S.2 0 8))) 11 58 ((S.2 11 58) + 1)) 5 ((S.2 11 58) + 1) (mH S)))
set_option maxHeartbeats 4000000 in
set_option maxRecDepth 100000 in
theorem c_X12_rewind (l : Launch) (D : va_G) (cc : Nat → ClassId) (ad : Nat → Nat) (S : St) (hI : InvM S) : CtV l D cc yX12_rewind cX12_rewind 1 1 [.ref (ad 0)] (MW cc ad S) (MW cc ad (sX12_rewind_S S )) := by
  refine CtV.of (plainFor_of_name (by decide +kernel)) (Nat.le_of_ble_eq_true rfl) ?_
  intro p e s m args below meth c A Q hC hW hend ls hl
  obtain ⟨⟨hx, hb, hml, hown, hts⟩, hNW⟩ := id hC
  have hl : lv_has ls 1 [(0, .ref (ad 0))] := hl
  obtain ⟨⟨-, hn1_hI, hn2_hI⟩, ⟨-, hq_hI⟩, -, ⟨-, hh_hI⟩, hs_hI⟩ := id hI
  refine lv_aload_n hx hb dX12_rewind_0 rfl (lv_at hl 0 rfl) ?_
  refine q_get hC hW kX12_41 0 (Mg0 cc ad S) (v := .ref (ad 11)) rfl dX12_rewind_1 ?_
  refine lv_bipush (v := 57) hx hb dX12_rewind_4 (by decide) ?_
  refine lv_dup2_11 hx hb dX12_rewind_6 rfl rfl ?_
  refine q_lald hC hW 11 (Mg11 cc ad S) (v := (S.2 11 57)) 57 rfl (by omega) (by decide) rfl dX12_rewind_7 ?_
  refine lv_aload_n hx hb dX12_rewind_8 rfl (lv_at hl 0 rfl) ?_
  refine q_get hC hW kX12_59 0 (Mg0 cc ad S) (v := .ref (ad 17)) rfl dX12_rewind_9 ?_
  refine lv_aload_n hx hb dX12_rewind_12 rfl (lv_at hl 0 rfl) ?_
  refine q_get hC hW kX12_69 0 (Mg0 cc ad S) (v := .int (nI (cN S))) (congrArg (fun z => some (Value.int z)) hI.1.1) dX12_rewind_13 ?_
  refine q_lald hC hW 17 (Mg17 cc ad S) (v := (S.2 17 (cN S))) (cN S) rfl (by omega) (by decide) rfl dX12_rewind_16 ?_
  refine lv_ladd hx hb dX12_rewind_17 ?_
  refine q_last hC hW 11 (Mg11 cc ad S) 57 rfl (by omega) (by decide) (Ms11 cc ad S 57 ((S.2 11 57) + (S.2 17 (cN S)))) dX12_rewind_18 (fun H locs hW => ?_)
  refine lv_aload_n hx hb dX12_rewind_19 rfl (lv_at hl 0 rfl) ?_
  refine q_get hC hW kX12_41 0 (Mg0 cc ad (sJ S 11 57 ((S.2 11 57) + (S.2 17 (cN S))))) (v := .ref (ad 11)) rfl dX12_rewind_20 ?_
  refine lv_bipush (v := 57) hx hb dX12_rewind_23 (by decide) ?_
  refine q_lald hC hW 11 (Mg11 cc ad (sJ S 11 57 ((S.2 11 57) + (S.2 17 (cN S))))) (v := ((S.2 11 57) + (S.2 17 (cN S)))) 57 rfl (by omega) (by decide) rfl dX12_rewind_25 ?_
  refine lv_aload_n hx hb dX12_rewind_26 rfl (lv_at hl 0 rfl) ?_
  refine q_get hC hW kX12_108 0 (Mg0 cc ad (sJ S 11 57 ((S.2 11 57) + (S.2 17 (cN S))))) (v := .long (S.2 0 8)) rfl dX12_rewind_27 ?_
  refine q_jlt (tgt := 71) hC dX12_rewind_30 dX12_rewind_31 (by decide) (fun c_30 => ?_) (fun c_30 => ?_)
  · skip
    exact hend _ _ _ _ _ (by simp only [sX12_rewind_S, if_pos c_30]) hW dX12_rewind_71
  · skip
    refine lv_aload_n hx hb dX12_rewind_34 rfl (lv_at hl 0 rfl) ?_
    refine q_get hC hW kX12_41 0 (Mg0 cc ad (sJ S 11 57 ((S.2 11 57) + (S.2 17 (cN S))))) (v := .ref (ad 11)) rfl dX12_rewind_35 ?_
    refine lv_bipush (v := 57) hx hb dX12_rewind_38 (by decide) ?_
    refine lv_dup2_11 hx hb dX12_rewind_40 rfl rfl ?_
    refine q_lald hC hW 11 (Mg11 cc ad (sJ S 11 57 ((S.2 11 57) + (S.2 17 (cN S))))) (v := ((S.2 11 57) + (S.2 17 (cN S)))) 57 rfl (by omega) (by decide) rfl dX12_rewind_41 ?_
    refine lv_aload_n hx hb dX12_rewind_42 rfl (lv_at hl 0 rfl) ?_
    refine q_get hC hW kX12_108 0 (Mg0 cc ad (sJ S 11 57 ((S.2 11 57) + (S.2 17 (cN S))))) (v := .long (S.2 0 8)) rfl dX12_rewind_43 ?_
    refine lv_lsub hx hb dX12_rewind_46 ?_
    refine q_last hC hW 11 (Mg11 cc ad (sJ S 11 57 ((S.2 11 57) + (S.2 17 (cN S))))) 57 rfl (by omega) (by decide) (Ms11 cc ad (sJ S 11 57 ((S.2 11 57) + (S.2 17 (cN S)))) 57 (((S.2 11 57) + (S.2 17 (cN S))) - (S.2 0 8))) dX12_rewind_47 (fun H locs hW => ?_)
    refine lv_aload_n hx hb dX12_rewind_48 rfl (lv_at hl 0 rfl) ?_
    refine q_get hC hW kX12_41 0 (Mg0 cc ad (sJ (sJ S 11 57 ((S.2 11 57) + (S.2 17 (cN S)))) 11 57 (((S.2 11 57) + (S.2 17 (cN S))) - (S.2 0 8)))) (v := .ref (ad 11)) rfl dX12_rewind_49 ?_
    refine lv_bipush (v := 58) hx hb dX12_rewind_52 (by decide) ?_
    refine lv_dup2_11 hx hb dX12_rewind_54 rfl rfl ?_
    refine q_lald hC hW 11 (Mg11 cc ad (sJ (sJ S 11 57 ((S.2 11 57) + (S.2 17 (cN S)))) 11 57 (((S.2 11 57) + (S.2 17 (cN S))) - (S.2 0 8)))) (v := (S.2 11 58)) 58 rfl (by omega) (by decide) rfl dX12_rewind_55 ?_
    refine lv_lconst (v := 1) hx hb dX12_rewind_56 rfl ?_
    refine lv_ladd hx hb dX12_rewind_57 ?_
    refine q_last hC hW 11 (Mg11 cc ad (sJ (sJ S 11 57 ((S.2 11 57) + (S.2 17 (cN S)))) 11 57 (((S.2 11 57) + (S.2 17 (cN S))) - (S.2 0 8)))) 58 rfl (by omega) (by decide) (Ms11 cc ad (sJ (sJ S 11 57 ((S.2 11 57) + (S.2 17 (cN S)))) 11 57 (((S.2 11 57) + (S.2 17 (cN S))) - (S.2 0 8))) 58 ((S.2 11 58) + 1)) dX12_rewind_58 (fun H locs hW => ?_)
    refine lv_aload_n hx hb dX12_rewind_59 rfl (lv_at hl 0 rfl) ?_
    refine lv_iconst (v := 5) hx hb dX12_rewind_60 (by decide) ?_
    refine lv_aload_n hx hb dX12_rewind_61 rfl (lv_at hl 0 rfl) ?_
    refine q_get hC hW kX12_41 0 (Mg0 cc ad (sJ (sJ (sJ S 11 57 ((S.2 11 57) + (S.2 17 (cN S)))) 11 57 (((S.2 11 57) + (S.2 17 (cN S))) - (S.2 0 8))) 11 58 ((S.2 11 58) + 1))) (v := .ref (ad 11)) rfl dX12_rewind_62 ?_
    refine lv_bipush (v := 58) hx hb dX12_rewind_65 (by decide) ?_
    refine q_lald hC hW 11 (Mg11 cc ad (sJ (sJ (sJ S 11 57 ((S.2 11 57) + (S.2 17 (cN S)))) 11 57 (((S.2 11 57) + (S.2 17 (cN S))) - (S.2 0 8))) 11 58 ((S.2 11 58) + 1))) (v := ((S.2 11 58) + 1)) 58 rfl (by omega) (by decide) rfl dX12_rewind_67 ?_
    refine q_VV hC hW (c_X12_happens l D cc ad (sJ (sJ (sJ S 11 57 ((S.2 11 57) + (S.2 17 (cN S)))) 11 57 (((S.2 11 57) + (S.2 17 (cN S))) - (S.2 0 8))) 11 58 ((S.2 11 58) + 1)) 5 ((S.2 11 58) + 1) (mH S) hI.2.2.2.1.1 (by omega)) mX12_172 0 (Mg0 cc ad (sJ (sJ (sJ S 11 57 ((S.2 11 57) + (S.2 17 (cN S)))) 11 57 (((S.2 11 57) + (S.2 17 (cN S))) - (S.2 0 8))) 11 58 ((S.2 11 58) + 1))) rfl (by decide) rfl hl.1 rfl (Nat.le_of_ble_eq_true rfl) (by decide) dX12_rewind_68 (fun H locs hW => ?_)
    have hI_1 : InvM (sX12_happens_S (sJ (sJ (sJ S 11 57 ((S.2 11 57) + (S.2 17 (cN S)))) 11 57 (((S.2 11 57) + (S.2 17 (cN S))) - (S.2 0 8))) 11 58 ((S.2 11 58) + 1)) 5 ((S.2 11 58) + 1) (mH S)) := inv_X12_happens (sJ (sJ (sJ S 11 57 ((S.2 11 57) + (S.2 17 (cN S)))) 11 57 (((S.2 11 57) + (S.2 17 (cN S))) - (S.2 0 8))) 11 58 ((S.2 11 58) + 1)) 5 ((S.2 11 58) + 1) (mH S) hI.2.2.2.1.1 (by omega) hI
    obtain ⟨⟨-, hn1_hI_1, hn2_hI_1⟩, ⟨-, hq_hI_1⟩, -, ⟨-, hh_hI_1⟩, hs_hI_1⟩ := id hI_1
    exact hend _ _ _ _ _ (by simp only [sX12_rewind_S, if_neg c_30]) hW dX12_rewind_71
def sX12_controls_S (S : St) (i : Nat) : St := (if (S.1 1 i) = 1 then (if (S.1 1 i) = 2 then (sJ (sJ (sJ (sJ S 11 (8 * i + 1) (sX12_kept ((S.2 11 (8 * i + 1)) + (sX12_kept (sX12_down ((S.2 4 i) - (2 * (sX12_tension S i))) (S.2 5 i)) (-500) 500)) 0 (S.2 3 i))) 11 (8 * i + 2) (sX12_kept ((S.2 11 (8 * i + 2)) + ((sX12_kept ((S.2 11 (8 * i + 1)) + (sX12_kept (sX12_down ((S.2 4 i) - (2 * (sX12_tension S i))) (S.2 5 i)) (-500) 500)) 0 (S.2 3 i)) - ((S.2 3 i) / 2))) (-1000000) 1000000)) 11 (8 * i + 3) (sX12_kept ((sX12_down ((S.2 6 i) * ((sX12_kept ((S.2 11 (8 * i + 1)) + (sX12_kept (sX12_down ((S.2 4 i) - (2 * (sX12_tension S i))) (S.2 5 i)) (-500) 500)) 0 (S.2 3 i)) - ((S.2 3 i) / 2))) 1000) + (sX12_down ((S.2 7 i) * (sX12_kept ((S.2 11 (8 * i + 2)) + ((sX12_kept ((S.2 11 (8 * i + 1)) + (sX12_kept (sX12_down ((S.2 4 i) - (2 * (sX12_tension S i))) (S.2 5 i)) (-500) 500)) 0 (S.2 3 i)) - ((S.2 3 i) / 2))) (-1000000) 1000000)) 1000000)) (-2000) 2000)) 11 (8 * i + 3) (sX12_kept ((sX12_kept ((sX12_down ((S.2 6 i) * ((sX12_kept ((S.2 11 (8 * i + 1)) + (sX12_kept (sX12_down ((S.2 4 i) - (2 * (sX12_tension S i))) (S.2 5 i)) (-500) 500)) 0 (S.2 3 i)) - ((S.2 3 i) / 2))) 1000) + (sX12_down ((S.2 7 i) * (sX12_kept ((S.2 11 (8 * i + 2)) + ((sX12_kept ((S.2 11 (8 * i + 1)) + (sX12_kept (sX12_down ((S.2 4 i) - (2 * (sX12_tension S i))) (S.2 5 i)) (-500) 500)) 0 (S.2 3 i)) - ((S.2 3 i) / 2))) (-1000000) 1000000)) 1000000)) (-2000) 2000) + (sX12_down ((S.2 9 i) * ((S.2 8 i) - (sX12_tension S i))) 1000000)) (-2000) 2000)) else (sJ (sJ (sJ S 11 (8 * i + 1) (sX12_kept ((S.2 11 (8 * i + 1)) + (sX12_kept (sX12_down ((S.2 4 i) - (2 * (sX12_tension S i))) (S.2 5 i)) (-500) 500)) 0 (S.2 3 i))) 11 (8 * i + 2) (sX12_kept ((S.2 11 (8 * i + 2)) + ((sX12_kept ((S.2 11 (8 * i + 1)) + (sX12_kept (sX12_down ((S.2 4 i) - (2 * (sX12_tension S i))) (S.2 5 i)) (-500) 500)) 0 (S.2 3 i)) - ((S.2 3 i) / 2))) (-1000000) 1000000)) 11 (8 * i + 3) (sX12_kept ((sX12_down ((S.2 6 i) * ((sX12_kept ((S.2 11 (8 * i + 1)) + (sX12_kept (sX12_down ((S.2 4 i) - (2 * (sX12_tension S i))) (S.2 5 i)) (-500) 500)) 0 (S.2 3 i)) - ((S.2 3 i) / 2))) 1000) + (sX12_down ((S.2 7 i) * (sX12_kept ((S.2 11 (8 * i + 2)) + ((sX12_kept ((S.2 11 (8 * i + 1)) + (sX12_kept (sX12_down ((S.2 4 i) - (2 * (sX12_tension S i))) (S.2 5 i)) (-500) 500)) 0 (S.2 3 i)) - ((S.2 3 i) / 2))) (-1000000) 1000000)) 1000000)) (-2000) 2000))) else (if (S.1 1 i) = 2 then (sJ S 11 (8 * i + 3) (sX12_kept ((S.2 11 (8 * i + 3)) + (sX12_down ((S.2 9 i) * ((S.2 8 i) - (sX12_tension S i))) 1000000)) (-2000) 2000)) else S))
set_option maxHeartbeats 4000000 in
set_option maxRecDepth 100000 in
theorem c_X12_controls (l : Launch) (D : va_G) (cc : Nat → ClassId) (ad : Nat → Nat) (S : St) (i : Nat) (hI : InvM S) (hi : i < 6) (hu : ¬ S.2 11 (8 * i) = 0) (hmob : S.1 1 i = 1 → ¬ S.2 5 i = 0) : CtV l D cc yX12_controls cX12_controls 9 2 [.ref (ad 0), .int (nI i)] (MW cc ad S) (MW cc ad (sX12_controls_S S i)) := by
  refine CtV.of (plainFor_of_name (by decide +kernel)) (Nat.le_of_ble_eq_true rfl) ?_
  intro p e s m args below meth c A Q hC hW hend ls hl
  obtain ⟨⟨hx, hb, hml, hown, hts⟩, hNW⟩ := id hC
  have hl : lv_has ls 9 [(0, .ref (ad 0)), (1, .int (nI i))] := hl
  obtain ⟨⟨-, hn1_hI, hn2_hI⟩, ⟨-, hq_hI⟩, -, ⟨-, hh_hI⟩, hs_hI⟩ := id hI
  refine lv_aload_n hx hb dX12_controls_0 rfl (lv_at hl 0 rfl) ?_
  refine lv_iload_n hx hb dX12_controls_1 rfl (lv_at hl 1 rfl) ?_
  refine q_VL hC hW (c_X12_tension l D cc ad S i (by omega) hu) mX12_186 0 (Mg0 cc ad S) rfl (by decide) rfl hl.1 rfl (Nat.le_of_ble_eq_true rfl) (by decide) dX12_controls_2 (fun H locs hW => ?_)
  refine lv_lstore_n (lv' := [(2, .long (sX12_tension S i)), (0, .ref (ad 0)), (1, .int (nI i))]) hx hb dX12_controls_5 rfl hl (by decide) rfl (fun ls hl => ?_)
  refine lv_bipush (v := 8) hx hb dX12_controls_6 (by decide) ?_
  refine lv_iload_n hx hb dX12_controls_8 rfl (lv_at hl 2 rfl) ?_
  refine lv_imul hx hb dX12_controls_9 ?_
  refine q_ri (v := nI (8 * i)) (nq_mul (a := 8) (b := i) rfl rfl) ?_
  refine lv_istore (lv' := [(4, .int (nI (8 * i))), (2, .long (sX12_tension S i)), (0, .ref (ad 0)), (1, .int (nI i))]) hx hb dX12_controls_10 hl (by decide) rfl (fun ls hl => ?_)
  refine lv_aload_n hx hb dX12_controls_12 rfl (lv_at hl 2 rfl) ?_
  refine q_get hC hW kX12_13 0 (Mg0 cc ad S) (v := .ref (ad 2)) rfl dX12_controls_13 ?_
  refine lv_iload_n hx hb dX12_controls_16 rfl (lv_at hl 3 rfl) ?_
  refine q_iald hC hW 2 (Mg2 cc ad S) (v := (S.1 1 i)) i rfl (by omega) (by decide) rfl dX12_controls_17 ?_
  refine lv_iconst (v := 1) hx hb dX12_controls_18 (by decide) ?_
  refine lv_icmp_ne (tgt := 193) hx hb dX12_controls_19 (by decide) (fun c_19 => ?_) (fun c_19 => ?_)
  · skip
    refine lv_aload_n hx hb dX12_controls_193 rfl (lv_at hl 2 rfl) ?_
    refine q_get hC hW kX12_13 0 (Mg0 cc ad S) (v := .ref (ad 2)) rfl dX12_controls_194 ?_
    refine lv_iload_n hx hb dX12_controls_197 rfl (lv_at hl 3 rfl) ?_
    refine q_iald hC hW 2 (Mg2 cc ad S) (v := (S.1 1 i)) i rfl (by omega) (by decide) rfl dX12_controls_198 ?_
    refine lv_iconst (v := 2) hx hb dX12_controls_199 (by decide) ?_
    refine lv_icmp_ne (tgt := 252) hx hb dX12_controls_200 (by decide) (fun c_200 => ?_) (fun c_200 => ?_)
    · skip
      exact hend _ _ _ _ _ (by simp only [sX12_controls_S, if_neg c_19, if_neg c_200]) hW dX12_controls_252
    · skip
      refine lv_aload_n hx hb dX12_controls_203 rfl (lv_at hl 2 rfl) ?_
      refine q_get hC hW kX12_41 0 (Mg0 cc ad S) (v := .ref (ad 11)) rfl dX12_controls_204 ?_
      refine lv_iload hx hb dX12_controls_207 (lv_at hl 0 rfl) ?_
      refine lv_iconst (v := 3) hx hb dX12_controls_209 (by decide) ?_
      refine lv_iadd hx hb dX12_controls_210 ?_
      refine q_ri (v := nI (8 * i + 3)) ((nq_add (a := (8 * i)) (b := 3) rfl rfl).trans (congrArg nI (by omega))) ?_
      refine lv_aload_n hx hb dX12_controls_211 rfl (lv_at hl 2 rfl) ?_
      refine q_get hC hW kX12_41 0 (Mg0 cc ad S) (v := .ref (ad 11)) rfl dX12_controls_212 ?_
      refine lv_iload hx hb dX12_controls_215 (lv_at hl 0 rfl) ?_
      refine lv_iconst (v := 3) hx hb dX12_controls_217 (by decide) ?_
      refine lv_iadd hx hb dX12_controls_218 ?_
      refine q_ri (v := nI (8 * i + 3)) ((nq_add (a := (8 * i)) (b := 3) rfl rfl).trans (congrArg nI (by omega))) ?_
      refine q_lald hC hW 11 (Mg11 cc ad S) (v := (S.2 11 (8 * i + 3))) (8 * i + 3) rfl (by omega) (by decide) rfl dX12_controls_219 ?_
      refine lv_aload_n hx hb dX12_controls_220 rfl (lv_at hl 2 rfl) ?_
      refine q_get hC hW kX12_35 0 (Mg0 cc ad S) (v := .ref (ad 9)) rfl dX12_controls_221 ?_
      refine lv_iload_n hx hb dX12_controls_224 rfl (lv_at hl 3 rfl) ?_
      refine q_lald hC hW 9 (Mg9 cc ad S) (v := (S.2 9 i)) i rfl (by omega) (by decide) rfl dX12_controls_225 ?_
      refine lv_aload_n hx hb dX12_controls_226 rfl (lv_at hl 2 rfl) ?_
      refine q_get hC hW kX12_32 0 (Mg0 cc ad S) (v := .ref (ad 8)) rfl dX12_controls_227 ?_
      refine lv_iload_n hx hb dX12_controls_230 rfl (lv_at hl 3 rfl) ?_
      refine q_lald hC hW 8 (Mg8 cc ad S) (v := (S.2 8 i)) i rfl (by omega) (by decide) rfl dX12_controls_231 ?_
      refine lv_lload_n hx hb dX12_controls_232 rfl (lv_at hl 1 rfl) ?_
      refine lv_lsub hx hb dX12_controls_233 ?_
      refine lv_lmul hx hb dX12_controls_234 ?_
      refine q_ldc2 hC nX12_73 dX12_controls_235 ?_
      refine q_SL hC hW (c_X12_down l D cc _ ((S.2 9 i) * ((S.2 8 i) - (sX12_tension S i))) 1000000 (by decide)) mX12_157 (by decide) rfl hl.1 rfl (Nat.le_of_ble_eq_true rfl) (by decide) dX12_controls_238 (fun H locs hW => ?_)
      refine lv_ladd hx hb dX12_controls_241 ?_
      refine q_ldc2 hC nX12_193 dX12_controls_242 ?_
      refine q_ldc2 hC nX12_195 dX12_controls_245 ?_
      refine q_SL hC hW (c_X12_kept l D cc _ ((S.2 11 (8 * i + 3)) + (sX12_down ((S.2 9 i) * ((S.2 8 i) - (sX12_tension S i))) 1000000)) (-2000) 2000) mX12_176 (by decide) rfl hl.1 rfl (Nat.le_of_ble_eq_true rfl) (by decide) dX12_controls_248 (fun H locs hW => ?_)
      refine q_last hC hW 11 (Mg11 cc ad S) (8 * i + 3) rfl (by omega) (by decide) (Ms11 cc ad S (8 * i + 3) (sX12_kept ((S.2 11 (8 * i + 3)) + (sX12_down ((S.2 9 i) * ((S.2 8 i) - (sX12_tension S i))) 1000000)) (-2000) 2000)) dX12_controls_251 (fun H locs hW => ?_)
      exact hend _ _ _ _ _ (by simp only [sX12_controls_S, if_neg c_19, if_pos c_200]) hW dX12_controls_252
  · skip
    refine lv_aload_n hx hb dX12_controls_22 rfl (lv_at hl 2 rfl) ?_
    refine q_get hC hW kX12_20 0 (Mg0 cc ad S) (v := .ref (ad 4)) rfl dX12_controls_23 ?_
    refine lv_iload_n hx hb dX12_controls_26 rfl (lv_at hl 3 rfl) ?_
    refine q_lald hC hW 4 (Mg4 cc ad S) (v := (S.2 4 i)) i rfl (by omega) (by decide) rfl dX12_controls_27 ?_
    refine q_ldc2 hC nX12_129 dX12_controls_28 ?_
    refine lv_lload_n hx hb dX12_controls_31 rfl (lv_at hl 1 rfl) ?_
    refine lv_lmul hx hb dX12_controls_32 ?_
    refine lv_lsub hx hb dX12_controls_33 ?_
    refine lv_aload_n hx hb dX12_controls_34 rfl (lv_at hl 2 rfl) ?_
    refine q_get hC hW kX12_23 0 (Mg0 cc ad S) (v := .ref (ad 5)) rfl dX12_controls_35 ?_
    refine lv_iload_n hx hb dX12_controls_38 rfl (lv_at hl 3 rfl) ?_
    refine q_lald hC hW 5 (Mg5 cc ad S) (v := (S.2 5 i)) i rfl (by omega) (by decide) rfl dX12_controls_39 ?_
    refine q_SL hC hW (c_X12_down l D cc _ ((S.2 4 i) - (2 * (sX12_tension S i))) (S.2 5 i) (hmob c_19)) mX12_157 (by decide) rfl hl.1 rfl (Nat.le_of_ble_eq_true rfl) (by decide) dX12_controls_40 (fun H locs hW => ?_)
    refine q_ldc2 hC nX12_189 dX12_controls_43 ?_
    refine q_ldc2 hC nX12_85 dX12_controls_46 ?_
    refine q_SL hC hW (c_X12_kept l D cc _ (sX12_down ((S.2 4 i) - (2 * (sX12_tension S i))) (S.2 5 i)) (-500) 500) mX12_176 (by decide) rfl hl.1 rfl (Nat.le_of_ble_eq_true rfl) (by decide) dX12_controls_49 (fun H locs hW => ?_)
    refine lv_lstore (lv' := [(5, .long (sX12_kept (sX12_down ((S.2 4 i) - (2 * (sX12_tension S i))) (S.2 5 i)) (-500) 500)), (4, .int (nI (8 * i))), (2, .long (sX12_tension S i)), (0, .ref (ad 0)), (1, .int (nI i))]) hx hb dX12_controls_52 hl (by decide) rfl (fun ls hl => ?_)
    refine lv_aload_n hx hb dX12_controls_54 rfl (lv_at hl 3 rfl) ?_
    refine q_get hC hW kX12_41 0 (Mg0 cc ad S) (v := .ref (ad 11)) rfl dX12_controls_55 ?_
    refine lv_iload hx hb dX12_controls_58 (lv_at hl 1 rfl) ?_
    refine lv_iconst (v := 1) hx hb dX12_controls_60 (by decide) ?_
    refine lv_iadd hx hb dX12_controls_61 ?_
    refine q_ri (v := nI (8 * i + 1)) ((nq_add (a := (8 * i)) (b := 1) rfl rfl).trans (congrArg nI (by omega))) ?_
    refine lv_aload_n hx hb dX12_controls_62 rfl (lv_at hl 3 rfl) ?_
    refine q_get hC hW kX12_41 0 (Mg0 cc ad S) (v := .ref (ad 11)) rfl dX12_controls_63 ?_
    refine lv_iload hx hb dX12_controls_66 (lv_at hl 1 rfl) ?_
    refine lv_iconst (v := 1) hx hb dX12_controls_68 (by decide) ?_
    refine lv_iadd hx hb dX12_controls_69 ?_
    refine q_ri (v := nI (8 * i + 1)) ((nq_add (a := (8 * i)) (b := 1) rfl rfl).trans (congrArg nI (by omega))) ?_
    refine q_lald hC hW 11 (Mg11 cc ad S) (v := (S.2 11 (8 * i + 1))) (8 * i + 1) rfl (by omega) (by decide) rfl dX12_controls_70 ?_
    refine lv_lload hx hb dX12_controls_71 (lv_at hl 0 rfl) ?_
    refine lv_ladd hx hb dX12_controls_73 ?_
    refine lv_lconst (v := 0) hx hb dX12_controls_74 rfl ?_
    refine lv_aload_n hx hb dX12_controls_75 rfl (lv_at hl 3 rfl) ?_
    refine q_get hC hW kX12_17 0 (Mg0 cc ad S) (v := .ref (ad 3)) rfl dX12_controls_76 ?_
    refine lv_iload_n hx hb dX12_controls_79 rfl (lv_at hl 4 rfl) ?_
    refine q_lald hC hW 3 (Mg3 cc ad S) (v := (S.2 3 i)) i rfl (by omega) (by decide) rfl dX12_controls_80 ?_
    refine q_SL hC hW (c_X12_kept l D cc _ ((S.2 11 (8 * i + 1)) + (sX12_kept (sX12_down ((S.2 4 i) - (2 * (sX12_tension S i))) (S.2 5 i)) (-500) 500)) 0 (S.2 3 i)) mX12_176 (by decide) rfl hl.1 rfl (Nat.le_of_ble_eq_true rfl) (by decide) dX12_controls_81 (fun H locs hW => ?_)
    refine q_last hC hW 11 (Mg11 cc ad S) (8 * i + 1) rfl (by omega) (by decide) (Ms11 cc ad S (8 * i + 1) (sX12_kept ((S.2 11 (8 * i + 1)) + (sX12_kept (sX12_down ((S.2 4 i) - (2 * (sX12_tension S i))) (S.2 5 i)) (-500) 500)) 0 (S.2 3 i))) dX12_controls_84 (fun H locs hW => ?_)
    refine lv_aload_n hx hb dX12_controls_85 rfl (lv_at hl 3 rfl) ?_
    refine q_get hC hW kX12_41 0 (Mg0 cc ad (sJ S 11 (8 * i + 1) (sX12_kept ((S.2 11 (8 * i + 1)) + (sX12_kept (sX12_down ((S.2 4 i) - (2 * (sX12_tension S i))) (S.2 5 i)) (-500) 500)) 0 (S.2 3 i)))) (v := .ref (ad 11)) rfl dX12_controls_86 ?_
    refine lv_iload hx hb dX12_controls_89 (lv_at hl 1 rfl) ?_
    refine lv_iconst (v := 1) hx hb dX12_controls_91 (by decide) ?_
    refine lv_iadd hx hb dX12_controls_92 ?_
    refine q_ri (v := nI (8 * i + 1)) ((nq_add (a := (8 * i)) (b := 1) rfl rfl).trans (congrArg nI (by omega))) ?_
    refine q_lald hC hW 11 (Mg11 cc ad (sJ S 11 (8 * i + 1) (sX12_kept ((S.2 11 (8 * i + 1)) + (sX12_kept (sX12_down ((S.2 4 i) - (2 * (sX12_tension S i))) (S.2 5 i)) (-500) 500)) 0 (S.2 3 i)))) (v := (sX12_kept ((S.2 11 (8 * i + 1)) + (sX12_kept (sX12_down ((S.2 4 i) - (2 * (sX12_tension S i))) (S.2 5 i)) (-500) 500)) 0 (S.2 3 i))) (8 * i + 1) rfl (by omega) (by decide) (rJ_at S 11 (8 * i + 1) (sX12_kept ((S.2 11 (8 * i + 1)) + (sX12_kept (sX12_down ((S.2 4 i) - (2 * (sX12_tension S i))) (S.2 5 i)) (-500) 500)) 0 (S.2 3 i))) dX12_controls_93 ?_
    refine lv_aload_n hx hb dX12_controls_94 rfl (lv_at hl 3 rfl) ?_
    refine q_get hC hW kX12_17 0 (Mg0 cc ad (sJ S 11 (8 * i + 1) (sX12_kept ((S.2 11 (8 * i + 1)) + (sX12_kept (sX12_down ((S.2 4 i) - (2 * (sX12_tension S i))) (S.2 5 i)) (-500) 500)) 0 (S.2 3 i)))) (v := .ref (ad 3)) rfl dX12_controls_95 ?_
    refine lv_iload_n hx hb dX12_controls_98 rfl (lv_at hl 4 rfl) ?_
    refine q_lald hC hW 3 (Mg3 cc ad (sJ S 11 (8 * i + 1) (sX12_kept ((S.2 11 (8 * i + 1)) + (sX12_kept (sX12_down ((S.2 4 i) - (2 * (sX12_tension S i))) (S.2 5 i)) (-500) 500)) 0 (S.2 3 i)))) (v := (S.2 3 i)) i rfl (by omega) (by decide) rfl dX12_controls_99 ?_
    refine q_ldc2 hC nX12_129 dX12_controls_100 ?_
    refine lv_ldiv hx hb dX12_controls_103 (by decide) ?_
    refine lv_lsub hx hb dX12_controls_104 ?_
    refine lv_lstore (lv' := [(7, .long ((sX12_kept ((S.2 11 (8 * i + 1)) + (sX12_kept (sX12_down ((S.2 4 i) - (2 * (sX12_tension S i))) (S.2 5 i)) (-500) 500)) 0 (S.2 3 i)) - ((S.2 3 i) / 2))), (5, .long (sX12_kept (sX12_down ((S.2 4 i) - (2 * (sX12_tension S i))) (S.2 5 i)) (-500) 500)), (4, .int (nI (8 * i))), (2, .long (sX12_tension S i)), (0, .ref (ad 0)), (1, .int (nI i))]) hx hb dX12_controls_105 hl (by decide) rfl (fun ls hl => ?_)
    refine lv_aload_n hx hb dX12_controls_107 rfl (lv_at hl 4 rfl) ?_
    refine q_get hC hW kX12_41 0 (Mg0 cc ad (sJ S 11 (8 * i + 1) (sX12_kept ((S.2 11 (8 * i + 1)) + (sX12_kept (sX12_down ((S.2 4 i) - (2 * (sX12_tension S i))) (S.2 5 i)) (-500) 500)) 0 (S.2 3 i)))) (v := .ref (ad 11)) rfl dX12_controls_108 ?_
    refine lv_iload hx hb dX12_controls_111 (lv_at hl 2 rfl) ?_
    refine lv_iconst (v := 2) hx hb dX12_controls_113 (by decide) ?_
    refine lv_iadd hx hb dX12_controls_114 ?_
    refine q_ri (v := nI (8 * i + 2)) ((nq_add (a := (8 * i)) (b := 2) rfl rfl).trans (congrArg nI (by omega))) ?_
    refine lv_aload_n hx hb dX12_controls_115 rfl (lv_at hl 4 rfl) ?_
    refine q_get hC hW kX12_41 0 (Mg0 cc ad (sJ S 11 (8 * i + 1) (sX12_kept ((S.2 11 (8 * i + 1)) + (sX12_kept (sX12_down ((S.2 4 i) - (2 * (sX12_tension S i))) (S.2 5 i)) (-500) 500)) 0 (S.2 3 i)))) (v := .ref (ad 11)) rfl dX12_controls_116 ?_
    refine lv_iload hx hb dX12_controls_119 (lv_at hl 2 rfl) ?_
    refine lv_iconst (v := 2) hx hb dX12_controls_121 (by decide) ?_
    refine lv_iadd hx hb dX12_controls_122 ?_
    refine q_ri (v := nI (8 * i + 2)) ((nq_add (a := (8 * i)) (b := 2) rfl rfl).trans (congrArg nI (by omega))) ?_
    refine q_lald hC hW 11 (Mg11 cc ad (sJ S 11 (8 * i + 1) (sX12_kept ((S.2 11 (8 * i + 1)) + (sX12_kept (sX12_down ((S.2 4 i) - (2 * (sX12_tension S i))) (S.2 5 i)) (-500) 500)) 0 (S.2 3 i)))) (v := (S.2 11 (8 * i + 2))) (8 * i + 2) rfl (by omega) (by decide) (rJ_ne S 11 (8 * i + 1) (sX12_kept ((S.2 11 (8 * i + 1)) + (sX12_kept (sX12_down ((S.2 4 i) - (2 * (sX12_tension S i))) (S.2 5 i)) (-500) 500)) 0 (S.2 3 i)) (8 * i + 2) (by omega)) dX12_controls_123 ?_
    refine lv_lload hx hb dX12_controls_124 (lv_at hl 0 rfl) ?_
    refine lv_ladd hx hb dX12_controls_126 ?_
    refine q_ldc2 hC nX12_191 dX12_controls_127 ?_
    refine q_ldc2 hC nX12_73 dX12_controls_130 ?_
    refine q_SL hC hW (c_X12_kept l D cc _ ((S.2 11 (8 * i + 2)) + ((sX12_kept ((S.2 11 (8 * i + 1)) + (sX12_kept (sX12_down ((S.2 4 i) - (2 * (sX12_tension S i))) (S.2 5 i)) (-500) 500)) 0 (S.2 3 i)) - ((S.2 3 i) / 2))) (-1000000) 1000000) mX12_176 (by decide) rfl hl.1 rfl (Nat.le_of_ble_eq_true rfl) (by decide) dX12_controls_133 (fun H locs hW => ?_)
    refine q_last hC hW 11 (Mg11 cc ad (sJ S 11 (8 * i + 1) (sX12_kept ((S.2 11 (8 * i + 1)) + (sX12_kept (sX12_down ((S.2 4 i) - (2 * (sX12_tension S i))) (S.2 5 i)) (-500) 500)) 0 (S.2 3 i)))) (8 * i + 2) rfl (by omega) (by decide) (Ms11 cc ad (sJ S 11 (8 * i + 1) (sX12_kept ((S.2 11 (8 * i + 1)) + (sX12_kept (sX12_down ((S.2 4 i) - (2 * (sX12_tension S i))) (S.2 5 i)) (-500) 500)) 0 (S.2 3 i))) (8 * i + 2) (sX12_kept ((S.2 11 (8 * i + 2)) + ((sX12_kept ((S.2 11 (8 * i + 1)) + (sX12_kept (sX12_down ((S.2 4 i) - (2 * (sX12_tension S i))) (S.2 5 i)) (-500) 500)) 0 (S.2 3 i)) - ((S.2 3 i) / 2))) (-1000000) 1000000)) dX12_controls_136 (fun H locs hW => ?_)
    refine lv_aload_n hx hb dX12_controls_137 rfl (lv_at hl 4 rfl) ?_
    refine q_get hC hW kX12_41 0 (Mg0 cc ad (sJ (sJ S 11 (8 * i + 1) (sX12_kept ((S.2 11 (8 * i + 1)) + (sX12_kept (sX12_down ((S.2 4 i) - (2 * (sX12_tension S i))) (S.2 5 i)) (-500) 500)) 0 (S.2 3 i))) 11 (8 * i + 2) (sX12_kept ((S.2 11 (8 * i + 2)) + ((sX12_kept ((S.2 11 (8 * i + 1)) + (sX12_kept (sX12_down ((S.2 4 i) - (2 * (sX12_tension S i))) (S.2 5 i)) (-500) 500)) 0 (S.2 3 i)) - ((S.2 3 i) / 2))) (-1000000) 1000000))) (v := .ref (ad 11)) rfl dX12_controls_138 ?_
    refine lv_iload hx hb dX12_controls_141 (lv_at hl 2 rfl) ?_
    refine lv_iconst (v := 3) hx hb dX12_controls_143 (by decide) ?_
    refine lv_iadd hx hb dX12_controls_144 ?_
    refine q_ri (v := nI (8 * i + 3)) ((nq_add (a := (8 * i)) (b := 3) rfl rfl).trans (congrArg nI (by omega))) ?_
    refine lv_aload_n hx hb dX12_controls_145 rfl (lv_at hl 4 rfl) ?_
    refine q_get hC hW kX12_26 0 (Mg0 cc ad (sJ (sJ S 11 (8 * i + 1) (sX12_kept ((S.2 11 (8 * i + 1)) + (sX12_kept (sX12_down ((S.2 4 i) - (2 * (sX12_tension S i))) (S.2 5 i)) (-500) 500)) 0 (S.2 3 i))) 11 (8 * i + 2) (sX12_kept ((S.2 11 (8 * i + 2)) + ((sX12_kept ((S.2 11 (8 * i + 1)) + (sX12_kept (sX12_down ((S.2 4 i) - (2 * (sX12_tension S i))) (S.2 5 i)) (-500) 500)) 0 (S.2 3 i)) - ((S.2 3 i) / 2))) (-1000000) 1000000))) (v := .ref (ad 6)) rfl dX12_controls_146 ?_
    refine lv_iload_n hx hb dX12_controls_149 rfl (lv_at hl 5 rfl) ?_
    refine q_lald hC hW 6 (Mg6 cc ad (sJ (sJ S 11 (8 * i + 1) (sX12_kept ((S.2 11 (8 * i + 1)) + (sX12_kept (sX12_down ((S.2 4 i) - (2 * (sX12_tension S i))) (S.2 5 i)) (-500) 500)) 0 (S.2 3 i))) 11 (8 * i + 2) (sX12_kept ((S.2 11 (8 * i + 2)) + ((sX12_kept ((S.2 11 (8 * i + 1)) + (sX12_kept (sX12_down ((S.2 4 i) - (2 * (sX12_tension S i))) (S.2 5 i)) (-500) 500)) 0 (S.2 3 i)) - ((S.2 3 i) / 2))) (-1000000) 1000000))) (v := (S.2 6 i)) i rfl (by omega) (by decide) rfl dX12_controls_150 ?_
    refine lv_lload hx hb dX12_controls_151 (lv_at hl 0 rfl) ?_
    refine lv_lmul hx hb dX12_controls_153 ?_
    refine q_ldc2 hC nX12_98 dX12_controls_154 ?_
    refine q_SL hC hW (c_X12_down l D cc _ ((S.2 6 i) * ((sX12_kept ((S.2 11 (8 * i + 1)) + (sX12_kept (sX12_down ((S.2 4 i) - (2 * (sX12_tension S i))) (S.2 5 i)) (-500) 500)) 0 (S.2 3 i)) - ((S.2 3 i) / 2))) 1000 (by decide)) mX12_157 (by decide) rfl hl.1 rfl (Nat.le_of_ble_eq_true rfl) (by decide) dX12_controls_157 (fun H locs hW => ?_)
    refine lv_aload_n hx hb dX12_controls_160 rfl (lv_at hl 4 rfl) ?_
    refine q_get hC hW kX12_29 0 (Mg0 cc ad (sJ (sJ S 11 (8 * i + 1) (sX12_kept ((S.2 11 (8 * i + 1)) + (sX12_kept (sX12_down ((S.2 4 i) - (2 * (sX12_tension S i))) (S.2 5 i)) (-500) 500)) 0 (S.2 3 i))) 11 (8 * i + 2) (sX12_kept ((S.2 11 (8 * i + 2)) + ((sX12_kept ((S.2 11 (8 * i + 1)) + (sX12_kept (sX12_down ((S.2 4 i) - (2 * (sX12_tension S i))) (S.2 5 i)) (-500) 500)) 0 (S.2 3 i)) - ((S.2 3 i) / 2))) (-1000000) 1000000))) (v := .ref (ad 7)) rfl dX12_controls_161 ?_
    refine lv_iload_n hx hb dX12_controls_164 rfl (lv_at hl 5 rfl) ?_
    refine q_lald hC hW 7 (Mg7 cc ad (sJ (sJ S 11 (8 * i + 1) (sX12_kept ((S.2 11 (8 * i + 1)) + (sX12_kept (sX12_down ((S.2 4 i) - (2 * (sX12_tension S i))) (S.2 5 i)) (-500) 500)) 0 (S.2 3 i))) 11 (8 * i + 2) (sX12_kept ((S.2 11 (8 * i + 2)) + ((sX12_kept ((S.2 11 (8 * i + 1)) + (sX12_kept (sX12_down ((S.2 4 i) - (2 * (sX12_tension S i))) (S.2 5 i)) (-500) 500)) 0 (S.2 3 i)) - ((S.2 3 i) / 2))) (-1000000) 1000000))) (v := (S.2 7 i)) i rfl (by omega) (by decide) rfl dX12_controls_165 ?_
    refine lv_aload_n hx hb dX12_controls_166 rfl (lv_at hl 4 rfl) ?_
    refine q_get hC hW kX12_41 0 (Mg0 cc ad (sJ (sJ S 11 (8 * i + 1) (sX12_kept ((S.2 11 (8 * i + 1)) + (sX12_kept (sX12_down ((S.2 4 i) - (2 * (sX12_tension S i))) (S.2 5 i)) (-500) 500)) 0 (S.2 3 i))) 11 (8 * i + 2) (sX12_kept ((S.2 11 (8 * i + 2)) + ((sX12_kept ((S.2 11 (8 * i + 1)) + (sX12_kept (sX12_down ((S.2 4 i) - (2 * (sX12_tension S i))) (S.2 5 i)) (-500) 500)) 0 (S.2 3 i)) - ((S.2 3 i) / 2))) (-1000000) 1000000))) (v := .ref (ad 11)) rfl dX12_controls_167 ?_
    refine lv_iload hx hb dX12_controls_170 (lv_at hl 2 rfl) ?_
    refine lv_iconst (v := 2) hx hb dX12_controls_172 (by decide) ?_
    refine lv_iadd hx hb dX12_controls_173 ?_
    refine q_ri (v := nI (8 * i + 2)) ((nq_add (a := (8 * i)) (b := 2) rfl rfl).trans (congrArg nI (by omega))) ?_
    refine q_lald hC hW 11 (Mg11 cc ad (sJ (sJ S 11 (8 * i + 1) (sX12_kept ((S.2 11 (8 * i + 1)) + (sX12_kept (sX12_down ((S.2 4 i) - (2 * (sX12_tension S i))) (S.2 5 i)) (-500) 500)) 0 (S.2 3 i))) 11 (8 * i + 2) (sX12_kept ((S.2 11 (8 * i + 2)) + ((sX12_kept ((S.2 11 (8 * i + 1)) + (sX12_kept (sX12_down ((S.2 4 i) - (2 * (sX12_tension S i))) (S.2 5 i)) (-500) 500)) 0 (S.2 3 i)) - ((S.2 3 i) / 2))) (-1000000) 1000000))) (v := (sX12_kept ((S.2 11 (8 * i + 2)) + ((sX12_kept ((S.2 11 (8 * i + 1)) + (sX12_kept (sX12_down ((S.2 4 i) - (2 * (sX12_tension S i))) (S.2 5 i)) (-500) 500)) 0 (S.2 3 i)) - ((S.2 3 i) / 2))) (-1000000) 1000000)) (8 * i + 2) rfl (by omega) (by decide) (rJ_at (sJ S 11 (8 * i + 1) (sX12_kept ((S.2 11 (8 * i + 1)) + (sX12_kept (sX12_down ((S.2 4 i) - (2 * (sX12_tension S i))) (S.2 5 i)) (-500) 500)) 0 (S.2 3 i))) 11 (8 * i + 2) (sX12_kept ((S.2 11 (8 * i + 2)) + ((sX12_kept ((S.2 11 (8 * i + 1)) + (sX12_kept (sX12_down ((S.2 4 i) - (2 * (sX12_tension S i))) (S.2 5 i)) (-500) 500)) 0 (S.2 3 i)) - ((S.2 3 i) / 2))) (-1000000) 1000000)) dX12_controls_174 ?_
    refine lv_lmul hx hb dX12_controls_175 ?_
    refine q_ldc2 hC nX12_73 dX12_controls_176 ?_
    refine q_SL hC hW (c_X12_down l D cc _ ((S.2 7 i) * (sX12_kept ((S.2 11 (8 * i + 2)) + ((sX12_kept ((S.2 11 (8 * i + 1)) + (sX12_kept (sX12_down ((S.2 4 i) - (2 * (sX12_tension S i))) (S.2 5 i)) (-500) 500)) 0 (S.2 3 i)) - ((S.2 3 i) / 2))) (-1000000) 1000000)) 1000000 (by decide)) mX12_157 (by decide) rfl hl.1 rfl (Nat.le_of_ble_eq_true rfl) (by decide) dX12_controls_179 (fun H locs hW => ?_)
    refine lv_ladd hx hb dX12_controls_182 ?_
    refine q_ldc2 hC nX12_193 dX12_controls_183 ?_
    refine q_ldc2 hC nX12_195 dX12_controls_186 ?_
    refine q_SL hC hW (c_X12_kept l D cc _ ((sX12_down ((S.2 6 i) * ((sX12_kept ((S.2 11 (8 * i + 1)) + (sX12_kept (sX12_down ((S.2 4 i) - (2 * (sX12_tension S i))) (S.2 5 i)) (-500) 500)) 0 (S.2 3 i)) - ((S.2 3 i) / 2))) 1000) + (sX12_down ((S.2 7 i) * (sX12_kept ((S.2 11 (8 * i + 2)) + ((sX12_kept ((S.2 11 (8 * i + 1)) + (sX12_kept (sX12_down ((S.2 4 i) - (2 * (sX12_tension S i))) (S.2 5 i)) (-500) 500)) 0 (S.2 3 i)) - ((S.2 3 i) / 2))) (-1000000) 1000000)) 1000000)) (-2000) 2000) mX12_176 (by decide) rfl hl.1 rfl (Nat.le_of_ble_eq_true rfl) (by decide) dX12_controls_189 (fun H locs hW => ?_)
    refine q_last hC hW 11 (Mg11 cc ad (sJ (sJ S 11 (8 * i + 1) (sX12_kept ((S.2 11 (8 * i + 1)) + (sX12_kept (sX12_down ((S.2 4 i) - (2 * (sX12_tension S i))) (S.2 5 i)) (-500) 500)) 0 (S.2 3 i))) 11 (8 * i + 2) (sX12_kept ((S.2 11 (8 * i + 2)) + ((sX12_kept ((S.2 11 (8 * i + 1)) + (sX12_kept (sX12_down ((S.2 4 i) - (2 * (sX12_tension S i))) (S.2 5 i)) (-500) 500)) 0 (S.2 3 i)) - ((S.2 3 i) / 2))) (-1000000) 1000000))) (8 * i + 3) rfl (by omega) (by decide) (Ms11 cc ad (sJ (sJ S 11 (8 * i + 1) (sX12_kept ((S.2 11 (8 * i + 1)) + (sX12_kept (sX12_down ((S.2 4 i) - (2 * (sX12_tension S i))) (S.2 5 i)) (-500) 500)) 0 (S.2 3 i))) 11 (8 * i + 2) (sX12_kept ((S.2 11 (8 * i + 2)) + ((sX12_kept ((S.2 11 (8 * i + 1)) + (sX12_kept (sX12_down ((S.2 4 i) - (2 * (sX12_tension S i))) (S.2 5 i)) (-500) 500)) 0 (S.2 3 i)) - ((S.2 3 i) / 2))) (-1000000) 1000000)) (8 * i + 3) (sX12_kept ((sX12_down ((S.2 6 i) * ((sX12_kept ((S.2 11 (8 * i + 1)) + (sX12_kept (sX12_down ((S.2 4 i) - (2 * (sX12_tension S i))) (S.2 5 i)) (-500) 500)) 0 (S.2 3 i)) - ((S.2 3 i) / 2))) 1000) + (sX12_down ((S.2 7 i) * (sX12_kept ((S.2 11 (8 * i + 2)) + ((sX12_kept ((S.2 11 (8 * i + 1)) + (sX12_kept (sX12_down ((S.2 4 i) - (2 * (sX12_tension S i))) (S.2 5 i)) (-500) 500)) 0 (S.2 3 i)) - ((S.2 3 i) / 2))) (-1000000) 1000000)) 1000000)) (-2000) 2000)) dX12_controls_192 (fun H locs hW => ?_)
    refine lv_aload_n hx hb dX12_controls_193 rfl (lv_at hl 4 rfl) ?_
    refine q_get hC hW kX12_13 0 (Mg0 cc ad (sJ (sJ (sJ S 11 (8 * i + 1) (sX12_kept ((S.2 11 (8 * i + 1)) + (sX12_kept (sX12_down ((S.2 4 i) - (2 * (sX12_tension S i))) (S.2 5 i)) (-500) 500)) 0 (S.2 3 i))) 11 (8 * i + 2) (sX12_kept ((S.2 11 (8 * i + 2)) + ((sX12_kept ((S.2 11 (8 * i + 1)) + (sX12_kept (sX12_down ((S.2 4 i) - (2 * (sX12_tension S i))) (S.2 5 i)) (-500) 500)) 0 (S.2 3 i)) - ((S.2 3 i) / 2))) (-1000000) 1000000)) 11 (8 * i + 3) (sX12_kept ((sX12_down ((S.2 6 i) * ((sX12_kept ((S.2 11 (8 * i + 1)) + (sX12_kept (sX12_down ((S.2 4 i) - (2 * (sX12_tension S i))) (S.2 5 i)) (-500) 500)) 0 (S.2 3 i)) - ((S.2 3 i) / 2))) 1000) + (sX12_down ((S.2 7 i) * (sX12_kept ((S.2 11 (8 * i + 2)) + ((sX12_kept ((S.2 11 (8 * i + 1)) + (sX12_kept (sX12_down ((S.2 4 i) - (2 * (sX12_tension S i))) (S.2 5 i)) (-500) 500)) 0 (S.2 3 i)) - ((S.2 3 i) / 2))) (-1000000) 1000000)) 1000000)) (-2000) 2000))) (v := .ref (ad 2)) rfl dX12_controls_194 ?_
    refine lv_iload_n hx hb dX12_controls_197 rfl (lv_at hl 5 rfl) ?_
    refine q_iald hC hW 2 (Mg2 cc ad (sJ (sJ (sJ S 11 (8 * i + 1) (sX12_kept ((S.2 11 (8 * i + 1)) + (sX12_kept (sX12_down ((S.2 4 i) - (2 * (sX12_tension S i))) (S.2 5 i)) (-500) 500)) 0 (S.2 3 i))) 11 (8 * i + 2) (sX12_kept ((S.2 11 (8 * i + 2)) + ((sX12_kept ((S.2 11 (8 * i + 1)) + (sX12_kept (sX12_down ((S.2 4 i) - (2 * (sX12_tension S i))) (S.2 5 i)) (-500) 500)) 0 (S.2 3 i)) - ((S.2 3 i) / 2))) (-1000000) 1000000)) 11 (8 * i + 3) (sX12_kept ((sX12_down ((S.2 6 i) * ((sX12_kept ((S.2 11 (8 * i + 1)) + (sX12_kept (sX12_down ((S.2 4 i) - (2 * (sX12_tension S i))) (S.2 5 i)) (-500) 500)) 0 (S.2 3 i)) - ((S.2 3 i) / 2))) 1000) + (sX12_down ((S.2 7 i) * (sX12_kept ((S.2 11 (8 * i + 2)) + ((sX12_kept ((S.2 11 (8 * i + 1)) + (sX12_kept (sX12_down ((S.2 4 i) - (2 * (sX12_tension S i))) (S.2 5 i)) (-500) 500)) 0 (S.2 3 i)) - ((S.2 3 i) / 2))) (-1000000) 1000000)) 1000000)) (-2000) 2000))) (v := (S.1 1 i)) i rfl (by omega) (by decide) rfl dX12_controls_198 ?_
    refine lv_iconst (v := 2) hx hb dX12_controls_199 (by decide) ?_
    refine lv_icmp_ne (tgt := 252) hx hb dX12_controls_200 (by decide) (fun c_200 => ?_) (fun c_200 => ?_)
    · skip
      exact hend _ _ _ _ _ (by simp only [sX12_controls_S, if_pos c_19, if_neg c_200]) hW dX12_controls_252
    · skip
      refine lv_aload_n hx hb dX12_controls_203 rfl (lv_at hl 4 rfl) ?_
      refine q_get hC hW kX12_41 0 (Mg0 cc ad (sJ (sJ (sJ S 11 (8 * i + 1) (sX12_kept ((S.2 11 (8 * i + 1)) + (sX12_kept (sX12_down ((S.2 4 i) - (2 * (sX12_tension S i))) (S.2 5 i)) (-500) 500)) 0 (S.2 3 i))) 11 (8 * i + 2) (sX12_kept ((S.2 11 (8 * i + 2)) + ((sX12_kept ((S.2 11 (8 * i + 1)) + (sX12_kept (sX12_down ((S.2 4 i) - (2 * (sX12_tension S i))) (S.2 5 i)) (-500) 500)) 0 (S.2 3 i)) - ((S.2 3 i) / 2))) (-1000000) 1000000)) 11 (8 * i + 3) (sX12_kept ((sX12_down ((S.2 6 i) * ((sX12_kept ((S.2 11 (8 * i + 1)) + (sX12_kept (sX12_down ((S.2 4 i) - (2 * (sX12_tension S i))) (S.2 5 i)) (-500) 500)) 0 (S.2 3 i)) - ((S.2 3 i) / 2))) 1000) + (sX12_down ((S.2 7 i) * (sX12_kept ((S.2 11 (8 * i + 2)) + ((sX12_kept ((S.2 11 (8 * i + 1)) + (sX12_kept (sX12_down ((S.2 4 i) - (2 * (sX12_tension S i))) (S.2 5 i)) (-500) 500)) 0 (S.2 3 i)) - ((S.2 3 i) / 2))) (-1000000) 1000000)) 1000000)) (-2000) 2000))) (v := .ref (ad 11)) rfl dX12_controls_204 ?_
      refine lv_iload hx hb dX12_controls_207 (lv_at hl 2 rfl) ?_
      refine lv_iconst (v := 3) hx hb dX12_controls_209 (by decide) ?_
      refine lv_iadd hx hb dX12_controls_210 ?_
      refine q_ri (v := nI (8 * i + 3)) ((nq_add (a := (8 * i)) (b := 3) rfl rfl).trans (congrArg nI (by omega))) ?_
      refine lv_aload_n hx hb dX12_controls_211 rfl (lv_at hl 4 rfl) ?_
      refine q_get hC hW kX12_41 0 (Mg0 cc ad (sJ (sJ (sJ S 11 (8 * i + 1) (sX12_kept ((S.2 11 (8 * i + 1)) + (sX12_kept (sX12_down ((S.2 4 i) - (2 * (sX12_tension S i))) (S.2 5 i)) (-500) 500)) 0 (S.2 3 i))) 11 (8 * i + 2) (sX12_kept ((S.2 11 (8 * i + 2)) + ((sX12_kept ((S.2 11 (8 * i + 1)) + (sX12_kept (sX12_down ((S.2 4 i) - (2 * (sX12_tension S i))) (S.2 5 i)) (-500) 500)) 0 (S.2 3 i)) - ((S.2 3 i) / 2))) (-1000000) 1000000)) 11 (8 * i + 3) (sX12_kept ((sX12_down ((S.2 6 i) * ((sX12_kept ((S.2 11 (8 * i + 1)) + (sX12_kept (sX12_down ((S.2 4 i) - (2 * (sX12_tension S i))) (S.2 5 i)) (-500) 500)) 0 (S.2 3 i)) - ((S.2 3 i) / 2))) 1000) + (sX12_down ((S.2 7 i) * (sX12_kept ((S.2 11 (8 * i + 2)) + ((sX12_kept ((S.2 11 (8 * i + 1)) + (sX12_kept (sX12_down ((S.2 4 i) - (2 * (sX12_tension S i))) (S.2 5 i)) (-500) 500)) 0 (S.2 3 i)) - ((S.2 3 i) / 2))) (-1000000) 1000000)) 1000000)) (-2000) 2000))) (v := .ref (ad 11)) rfl dX12_controls_212 ?_
      refine lv_iload hx hb dX12_controls_215 (lv_at hl 2 rfl) ?_
      refine lv_iconst (v := 3) hx hb dX12_controls_217 (by decide) ?_
      refine lv_iadd hx hb dX12_controls_218 ?_
      refine q_ri (v := nI (8 * i + 3)) ((nq_add (a := (8 * i)) (b := 3) rfl rfl).trans (congrArg nI (by omega))) ?_
      refine q_lald hC hW 11 (Mg11 cc ad (sJ (sJ (sJ S 11 (8 * i + 1) (sX12_kept ((S.2 11 (8 * i + 1)) + (sX12_kept (sX12_down ((S.2 4 i) - (2 * (sX12_tension S i))) (S.2 5 i)) (-500) 500)) 0 (S.2 3 i))) 11 (8 * i + 2) (sX12_kept ((S.2 11 (8 * i + 2)) + ((sX12_kept ((S.2 11 (8 * i + 1)) + (sX12_kept (sX12_down ((S.2 4 i) - (2 * (sX12_tension S i))) (S.2 5 i)) (-500) 500)) 0 (S.2 3 i)) - ((S.2 3 i) / 2))) (-1000000) 1000000)) 11 (8 * i + 3) (sX12_kept ((sX12_down ((S.2 6 i) * ((sX12_kept ((S.2 11 (8 * i + 1)) + (sX12_kept (sX12_down ((S.2 4 i) - (2 * (sX12_tension S i))) (S.2 5 i)) (-500) 500)) 0 (S.2 3 i)) - ((S.2 3 i) / 2))) 1000) + (sX12_down ((S.2 7 i) * (sX12_kept ((S.2 11 (8 * i + 2)) + ((sX12_kept ((S.2 11 (8 * i + 1)) + (sX12_kept (sX12_down ((S.2 4 i) - (2 * (sX12_tension S i))) (S.2 5 i)) (-500) 500)) 0 (S.2 3 i)) - ((S.2 3 i) / 2))) (-1000000) 1000000)) 1000000)) (-2000) 2000))) (v := (sX12_kept ((sX12_down ((S.2 6 i) * ((sX12_kept ((S.2 11 (8 * i + 1)) + (sX12_kept (sX12_down ((S.2 4 i) - (2 * (sX12_tension S i))) (S.2 5 i)) (-500) 500)) 0 (S.2 3 i)) - ((S.2 3 i) / 2))) 1000) + (sX12_down ((S.2 7 i) * (sX12_kept ((S.2 11 (8 * i + 2)) + ((sX12_kept ((S.2 11 (8 * i + 1)) + (sX12_kept (sX12_down ((S.2 4 i) - (2 * (sX12_tension S i))) (S.2 5 i)) (-500) 500)) 0 (S.2 3 i)) - ((S.2 3 i) / 2))) (-1000000) 1000000)) 1000000)) (-2000) 2000)) (8 * i + 3) rfl (by omega) (by decide) (rJ_at (sJ (sJ S 11 (8 * i + 1) (sX12_kept ((S.2 11 (8 * i + 1)) + (sX12_kept (sX12_down ((S.2 4 i) - (2 * (sX12_tension S i))) (S.2 5 i)) (-500) 500)) 0 (S.2 3 i))) 11 (8 * i + 2) (sX12_kept ((S.2 11 (8 * i + 2)) + ((sX12_kept ((S.2 11 (8 * i + 1)) + (sX12_kept (sX12_down ((S.2 4 i) - (2 * (sX12_tension S i))) (S.2 5 i)) (-500) 500)) 0 (S.2 3 i)) - ((S.2 3 i) / 2))) (-1000000) 1000000)) 11 (8 * i + 3) (sX12_kept ((sX12_down ((S.2 6 i) * ((sX12_kept ((S.2 11 (8 * i + 1)) + (sX12_kept (sX12_down ((S.2 4 i) - (2 * (sX12_tension S i))) (S.2 5 i)) (-500) 500)) 0 (S.2 3 i)) - ((S.2 3 i) / 2))) 1000) + (sX12_down ((S.2 7 i) * (sX12_kept ((S.2 11 (8 * i + 2)) + ((sX12_kept ((S.2 11 (8 * i + 1)) + (sX12_kept (sX12_down ((S.2 4 i) - (2 * (sX12_tension S i))) (S.2 5 i)) (-500) 500)) 0 (S.2 3 i)) - ((S.2 3 i) / 2))) (-1000000) 1000000)) 1000000)) (-2000) 2000)) dX12_controls_219 ?_
      refine lv_aload_n hx hb dX12_controls_220 rfl (lv_at hl 4 rfl) ?_
      refine q_get hC hW kX12_35 0 (Mg0 cc ad (sJ (sJ (sJ S 11 (8 * i + 1) (sX12_kept ((S.2 11 (8 * i + 1)) + (sX12_kept (sX12_down ((S.2 4 i) - (2 * (sX12_tension S i))) (S.2 5 i)) (-500) 500)) 0 (S.2 3 i))) 11 (8 * i + 2) (sX12_kept ((S.2 11 (8 * i + 2)) + ((sX12_kept ((S.2 11 (8 * i + 1)) + (sX12_kept (sX12_down ((S.2 4 i) - (2 * (sX12_tension S i))) (S.2 5 i)) (-500) 500)) 0 (S.2 3 i)) - ((S.2 3 i) / 2))) (-1000000) 1000000)) 11 (8 * i + 3) (sX12_kept ((sX12_down ((S.2 6 i) * ((sX12_kept ((S.2 11 (8 * i + 1)) + (sX12_kept (sX12_down ((S.2 4 i) - (2 * (sX12_tension S i))) (S.2 5 i)) (-500) 500)) 0 (S.2 3 i)) - ((S.2 3 i) / 2))) 1000) + (sX12_down ((S.2 7 i) * (sX12_kept ((S.2 11 (8 * i + 2)) + ((sX12_kept ((S.2 11 (8 * i + 1)) + (sX12_kept (sX12_down ((S.2 4 i) - (2 * (sX12_tension S i))) (S.2 5 i)) (-500) 500)) 0 (S.2 3 i)) - ((S.2 3 i) / 2))) (-1000000) 1000000)) 1000000)) (-2000) 2000))) (v := .ref (ad 9)) rfl dX12_controls_221 ?_
      refine lv_iload_n hx hb dX12_controls_224 rfl (lv_at hl 5 rfl) ?_
      refine q_lald hC hW 9 (Mg9 cc ad (sJ (sJ (sJ S 11 (8 * i + 1) (sX12_kept ((S.2 11 (8 * i + 1)) + (sX12_kept (sX12_down ((S.2 4 i) - (2 * (sX12_tension S i))) (S.2 5 i)) (-500) 500)) 0 (S.2 3 i))) 11 (8 * i + 2) (sX12_kept ((S.2 11 (8 * i + 2)) + ((sX12_kept ((S.2 11 (8 * i + 1)) + (sX12_kept (sX12_down ((S.2 4 i) - (2 * (sX12_tension S i))) (S.2 5 i)) (-500) 500)) 0 (S.2 3 i)) - ((S.2 3 i) / 2))) (-1000000) 1000000)) 11 (8 * i + 3) (sX12_kept ((sX12_down ((S.2 6 i) * ((sX12_kept ((S.2 11 (8 * i + 1)) + (sX12_kept (sX12_down ((S.2 4 i) - (2 * (sX12_tension S i))) (S.2 5 i)) (-500) 500)) 0 (S.2 3 i)) - ((S.2 3 i) / 2))) 1000) + (sX12_down ((S.2 7 i) * (sX12_kept ((S.2 11 (8 * i + 2)) + ((sX12_kept ((S.2 11 (8 * i + 1)) + (sX12_kept (sX12_down ((S.2 4 i) - (2 * (sX12_tension S i))) (S.2 5 i)) (-500) 500)) 0 (S.2 3 i)) - ((S.2 3 i) / 2))) (-1000000) 1000000)) 1000000)) (-2000) 2000))) (v := (S.2 9 i)) i rfl (by omega) (by decide) rfl dX12_controls_225 ?_
      refine lv_aload_n hx hb dX12_controls_226 rfl (lv_at hl 4 rfl) ?_
      refine q_get hC hW kX12_32 0 (Mg0 cc ad (sJ (sJ (sJ S 11 (8 * i + 1) (sX12_kept ((S.2 11 (8 * i + 1)) + (sX12_kept (sX12_down ((S.2 4 i) - (2 * (sX12_tension S i))) (S.2 5 i)) (-500) 500)) 0 (S.2 3 i))) 11 (8 * i + 2) (sX12_kept ((S.2 11 (8 * i + 2)) + ((sX12_kept ((S.2 11 (8 * i + 1)) + (sX12_kept (sX12_down ((S.2 4 i) - (2 * (sX12_tension S i))) (S.2 5 i)) (-500) 500)) 0 (S.2 3 i)) - ((S.2 3 i) / 2))) (-1000000) 1000000)) 11 (8 * i + 3) (sX12_kept ((sX12_down ((S.2 6 i) * ((sX12_kept ((S.2 11 (8 * i + 1)) + (sX12_kept (sX12_down ((S.2 4 i) - (2 * (sX12_tension S i))) (S.2 5 i)) (-500) 500)) 0 (S.2 3 i)) - ((S.2 3 i) / 2))) 1000) + (sX12_down ((S.2 7 i) * (sX12_kept ((S.2 11 (8 * i + 2)) + ((sX12_kept ((S.2 11 (8 * i + 1)) + (sX12_kept (sX12_down ((S.2 4 i) - (2 * (sX12_tension S i))) (S.2 5 i)) (-500) 500)) 0 (S.2 3 i)) - ((S.2 3 i) / 2))) (-1000000) 1000000)) 1000000)) (-2000) 2000))) (v := .ref (ad 8)) rfl dX12_controls_227 ?_
      refine lv_iload_n hx hb dX12_controls_230 rfl (lv_at hl 5 rfl) ?_
      refine q_lald hC hW 8 (Mg8 cc ad (sJ (sJ (sJ S 11 (8 * i + 1) (sX12_kept ((S.2 11 (8 * i + 1)) + (sX12_kept (sX12_down ((S.2 4 i) - (2 * (sX12_tension S i))) (S.2 5 i)) (-500) 500)) 0 (S.2 3 i))) 11 (8 * i + 2) (sX12_kept ((S.2 11 (8 * i + 2)) + ((sX12_kept ((S.2 11 (8 * i + 1)) + (sX12_kept (sX12_down ((S.2 4 i) - (2 * (sX12_tension S i))) (S.2 5 i)) (-500) 500)) 0 (S.2 3 i)) - ((S.2 3 i) / 2))) (-1000000) 1000000)) 11 (8 * i + 3) (sX12_kept ((sX12_down ((S.2 6 i) * ((sX12_kept ((S.2 11 (8 * i + 1)) + (sX12_kept (sX12_down ((S.2 4 i) - (2 * (sX12_tension S i))) (S.2 5 i)) (-500) 500)) 0 (S.2 3 i)) - ((S.2 3 i) / 2))) 1000) + (sX12_down ((S.2 7 i) * (sX12_kept ((S.2 11 (8 * i + 2)) + ((sX12_kept ((S.2 11 (8 * i + 1)) + (sX12_kept (sX12_down ((S.2 4 i) - (2 * (sX12_tension S i))) (S.2 5 i)) (-500) 500)) 0 (S.2 3 i)) - ((S.2 3 i) / 2))) (-1000000) 1000000)) 1000000)) (-2000) 2000))) (v := (S.2 8 i)) i rfl (by omega) (by decide) rfl dX12_controls_231 ?_
      refine lv_lload_n hx hb dX12_controls_232 rfl (lv_at hl 3 rfl) ?_
      refine lv_lsub hx hb dX12_controls_233 ?_
      refine lv_lmul hx hb dX12_controls_234 ?_
      refine q_ldc2 hC nX12_73 dX12_controls_235 ?_
      refine q_SL hC hW (c_X12_down l D cc _ ((S.2 9 i) * ((S.2 8 i) - (sX12_tension S i))) 1000000 (by decide)) mX12_157 (by decide) rfl hl.1 rfl (Nat.le_of_ble_eq_true rfl) (by decide) dX12_controls_238 (fun H locs hW => ?_)
      refine lv_ladd hx hb dX12_controls_241 ?_
      refine q_ldc2 hC nX12_193 dX12_controls_242 ?_
      refine q_ldc2 hC nX12_195 dX12_controls_245 ?_
      refine q_SL hC hW (c_X12_kept l D cc _ ((sX12_kept ((sX12_down ((S.2 6 i) * ((sX12_kept ((S.2 11 (8 * i + 1)) + (sX12_kept (sX12_down ((S.2 4 i) - (2 * (sX12_tension S i))) (S.2 5 i)) (-500) 500)) 0 (S.2 3 i)) - ((S.2 3 i) / 2))) 1000) + (sX12_down ((S.2 7 i) * (sX12_kept ((S.2 11 (8 * i + 2)) + ((sX12_kept ((S.2 11 (8 * i + 1)) + (sX12_kept (sX12_down ((S.2 4 i) - (2 * (sX12_tension S i))) (S.2 5 i)) (-500) 500)) 0 (S.2 3 i)) - ((S.2 3 i) / 2))) (-1000000) 1000000)) 1000000)) (-2000) 2000) + (sX12_down ((S.2 9 i) * ((S.2 8 i) - (sX12_tension S i))) 1000000)) (-2000) 2000) mX12_176 (by decide) rfl hl.1 rfl (Nat.le_of_ble_eq_true rfl) (by decide) dX12_controls_248 (fun H locs hW => ?_)
      refine q_last hC hW 11 (Mg11 cc ad (sJ (sJ (sJ S 11 (8 * i + 1) (sX12_kept ((S.2 11 (8 * i + 1)) + (sX12_kept (sX12_down ((S.2 4 i) - (2 * (sX12_tension S i))) (S.2 5 i)) (-500) 500)) 0 (S.2 3 i))) 11 (8 * i + 2) (sX12_kept ((S.2 11 (8 * i + 2)) + ((sX12_kept ((S.2 11 (8 * i + 1)) + (sX12_kept (sX12_down ((S.2 4 i) - (2 * (sX12_tension S i))) (S.2 5 i)) (-500) 500)) 0 (S.2 3 i)) - ((S.2 3 i) / 2))) (-1000000) 1000000)) 11 (8 * i + 3) (sX12_kept ((sX12_down ((S.2 6 i) * ((sX12_kept ((S.2 11 (8 * i + 1)) + (sX12_kept (sX12_down ((S.2 4 i) - (2 * (sX12_tension S i))) (S.2 5 i)) (-500) 500)) 0 (S.2 3 i)) - ((S.2 3 i) / 2))) 1000) + (sX12_down ((S.2 7 i) * (sX12_kept ((S.2 11 (8 * i + 2)) + ((sX12_kept ((S.2 11 (8 * i + 1)) + (sX12_kept (sX12_down ((S.2 4 i) - (2 * (sX12_tension S i))) (S.2 5 i)) (-500) 500)) 0 (S.2 3 i)) - ((S.2 3 i) / 2))) (-1000000) 1000000)) 1000000)) (-2000) 2000))) (8 * i + 3) rfl (by omega) (by decide) (Ms11 cc ad (sJ (sJ (sJ S 11 (8 * i + 1) (sX12_kept ((S.2 11 (8 * i + 1)) + (sX12_kept (sX12_down ((S.2 4 i) - (2 * (sX12_tension S i))) (S.2 5 i)) (-500) 500)) 0 (S.2 3 i))) 11 (8 * i + 2) (sX12_kept ((S.2 11 (8 * i + 2)) + ((sX12_kept ((S.2 11 (8 * i + 1)) + (sX12_kept (sX12_down ((S.2 4 i) - (2 * (sX12_tension S i))) (S.2 5 i)) (-500) 500)) 0 (S.2 3 i)) - ((S.2 3 i) / 2))) (-1000000) 1000000)) 11 (8 * i + 3) (sX12_kept ((sX12_down ((S.2 6 i) * ((sX12_kept ((S.2 11 (8 * i + 1)) + (sX12_kept (sX12_down ((S.2 4 i) - (2 * (sX12_tension S i))) (S.2 5 i)) (-500) 500)) 0 (S.2 3 i)) - ((S.2 3 i) / 2))) 1000) + (sX12_down ((S.2 7 i) * (sX12_kept ((S.2 11 (8 * i + 2)) + ((sX12_kept ((S.2 11 (8 * i + 1)) + (sX12_kept (sX12_down ((S.2 4 i) - (2 * (sX12_tension S i))) (S.2 5 i)) (-500) 500)) 0 (S.2 3 i)) - ((S.2 3 i) / 2))) (-1000000) 1000000)) 1000000)) (-2000) 2000)) (8 * i + 3) (sX12_kept ((sX12_kept ((sX12_down ((S.2 6 i) * ((sX12_kept ((S.2 11 (8 * i + 1)) + (sX12_kept (sX12_down ((S.2 4 i) - (2 * (sX12_tension S i))) (S.2 5 i)) (-500) 500)) 0 (S.2 3 i)) - ((S.2 3 i) / 2))) 1000) + (sX12_down ((S.2 7 i) * (sX12_kept ((S.2 11 (8 * i + 2)) + ((sX12_kept ((S.2 11 (8 * i + 1)) + (sX12_kept (sX12_down ((S.2 4 i) - (2 * (sX12_tension S i))) (S.2 5 i)) (-500) 500)) 0 (S.2 3 i)) - ((S.2 3 i) / 2))) (-1000000) 1000000)) 1000000)) (-2000) 2000) + (sX12_down ((S.2 9 i) * ((S.2 8 i) - (sX12_tension S i))) 1000000)) (-2000) 2000)) dX12_controls_251 (fun H locs hW => ?_)
      exact hend _ _ _ _ _ (by simp only [sX12_controls_S, if_pos c_19, if_pos c_200]) hW dX12_controls_252
def KX12_watch_47_S (S : St) (i : Nat) : St := (if (sX12_tension S i) ≤ (S.2 11 (8 * i + 6)) then (sJ S 11 (8 * i + 6) (S.2 11 (8 * i + 6))) else (sJ S 11 (8 * i + 6) (sX12_tension S i)))
def KX12_watch_79_S (S : St) (i : Nat) : St := (if (sX12_tension S i) = 0 then (sJ (KX12_watch_47_S S i) 11 (8 * i + 5) (((KX12_watch_47_S S i).2 11 (8 * i + 5)) + 1)) else (sJ (KX12_watch_47_S S i) 11 (8 * i + 5) 0))
def KX12_watch_101_S (S : St) (i : Nat) : St := (if ((KX12_watch_79_S S i).2 11 (8 * i + 5)) = 20 then (sX12_happens_S (KX12_watch_79_S S i) 2 (lN i) (mH (KX12_watch_79_S S i))) else (KX12_watch_79_S S i))
def KX12_watch_123_S (S : St) (i : Nat) : St := (if (sX12_tension S i) ≤ 0 then (KX12_watch_101_S S i) else (if ((KX12_watch_47_S S i).2 11 (8 * i + 5)) < 20 then (KX12_watch_101_S S i) else (sX12_happens_S (KX12_watch_101_S S i) 3 (lN i) (mH (KX12_watch_101_S S i)))))
theorem invK47_watch (S : St) (i : Nat) (hi : i < 6) (hI : InvM S) : InvM (KX12_watch_47_S S i) := by
  unfold KX12_watch_47_S
  repeat' split
  all_goals exact invM_now hI (by omega)
theorem invK79_watch (S : St) (i : Nat) (hi : i < 6) (hI : InvM S) : InvM (KX12_watch_79_S S i) := by
  unfold KX12_watch_79_S
  repeat' split
  all_goals exact invM_now (invK47_watch S i hi hI) (by omega)
theorem invK101_watch (S : St) (i : Nat) (hi : i < 6) (hI : InvM S) : InvM (KX12_watch_101_S S i) := by
  have h := invK79_watch S i hi hI
  unfold KX12_watch_101_S
  repeat' split
  all_goals first | exact h | exact inv_X12_happens _ _ _ _ h.2.2.2.1.1 h.2.2.2.1.2 h
theorem invK123_watch (S : St) (i : Nat) (hi : i < 6) (hI : InvM S) : InvM (KX12_watch_123_S S i) := by
  have h := invK101_watch S i hi hI
  unfold KX12_watch_123_S
  repeat' split
  all_goals first | exact h | exact inv_X12_happens _ _ _ _ h.2.2.2.1.1 h.2.2.2.1.2 h
def sX12_watch_S (S : St) (i : Nat) : St := (if (sX12_marksIn (KX12_watch_123_S S i) i (mM (KX12_watch_123_S S i))) ≤ 0 then (if (sX12_tension S i) ≤ ((KX12_watch_123_S S i).2 0 2) then (KX12_watch_123_S S i) else (if ((KX12_watch_123_S S i).2 11 49) = 1 then (KX12_watch_123_S S i) else (sX12_breaks_S (KX12_watch_123_S S i) (nI i)))) else (if (sX12_tension S i) ≤ ((((KX12_watch_123_S S i).2 0 2) * ((KX12_watch_123_S S i).2 0 3)) / 1000) then (KX12_watch_123_S S i) else (if ((KX12_watch_123_S S i).2 11 49) = 1 then (KX12_watch_123_S S i) else (sX12_breaks_S (KX12_watch_123_S S i) (nI i)))))
set_option maxHeartbeats 4000000 in
set_option maxRecDepth 100000 in
theorem c_X12_watch (l : Launch) (D : va_G) (cc : Nat → ClassId) (ad : Nat → Nat) (S : St) (i : Nat) (hI : InvM S) (hi : i < 6) (hu : ¬ S.2 11 (8 * i) = 0) : CtV l D cc yX12_watch cX12_watch 9 3 [.ref (ad 0), .int (nI i)] (MW cc ad S) (MW cc ad (sX12_watch_S S i)) := by
  refine CtV.of (plainFor_of_name (by decide +kernel)) (Nat.le_of_ble_eq_true rfl) ?_
  intro p e s m args below meth c A Q hC hW hend ls hl
  obtain ⟨⟨hx, hb, hml, hown, hts⟩, hNW⟩ := id hC
  have hl : lv_has ls 9 [(0, .ref (ad 0)), (1, .int (nI i))] := hl
  obtain ⟨⟨-, hn1_hI, hn2_hI⟩, ⟨-, hq_hI⟩, -, ⟨-, hh_hI⟩, hs_hI⟩ := id hI
  have hcut123 : ∀ (H : Heap) (locs : List Loc) (ls : Array Slot), Wd D cc (MW cc ad (KX12_watch_123_S S i)) A s.heap H locs s → lv_has ls 9 [(0, .ref (ad 0)), (1, .int (nI i)), (2, .int (nI (8 * i))), (3, .long (sX12_tension S i))] → W p l e (rmD 3) s m args below meth c H locs 0 0 Q (F0 m 123 ls []) := by
    intro H locs ls hW hl
    have hI_1 : InvM (KX12_watch_123_S S i) := invK123_watch S i hi hI
    obtain ⟨⟨-, hn1_hI_1, hn2_hI_1⟩, ⟨-, hq_hI_1⟩, -, ⟨-, hh_hI_1⟩, hs_hI_1⟩ := id hI_1
    refine lv_aload_n hx hb dX12_watch_123 rfl (lv_at hl 0 rfl) ?_
    refine lv_iload_n hx hb dX12_watch_124 rfl (lv_at hl 1 rfl) ?_
    refine q_VI hC hW (c_X12_marksIn l D cc ad (KX12_watch_123_S S i) i (mM (KX12_watch_123_S S i)) hI_1.2.2.1 (by omega) (by omega)) mX12_199 0 (Mg0 cc ad (KX12_watch_123_S S i)) rfl (by decide) rfl hl.1 rfl (Nat.le_of_ble_eq_true rfl) (by decide) dX12_watch_125 (fun H locs hW => ?_)
    refine lv_if_le (tgt := 147) hx hb dX12_watch_128 (by decide) (fun c_128 => ?_) (fun c_128 => ?_)
    · skip
      refine lv_aload_n hx hb dX12_watch_147 rfl (lv_at hl 0 rfl) ?_
      refine q_get hC hW kX12_82 0 (Mg0 cc ad (KX12_watch_123_S S i)) (v := .long ((KX12_watch_123_S S i).2 0 2)) rfl dX12_watch_148 ?_
      refine lv_lstore (lv' := [(7, .long ((KX12_watch_123_S S i).2 0 2)), (0, .ref (ad 0)), (1, .int (nI i)), (2, .int (nI (8 * i))), (3, .long (sX12_tension S i))]) hx hb dX12_watch_151 hl (by decide) rfl (fun ls hl => ?_)
      refine lv_lload_n hx hb dX12_watch_153 rfl (lv_at hl 4 rfl) ?_
      refine lv_lload hx hb dX12_watch_154 (lv_at hl 0 rfl) ?_
      refine q_jle (tgt := 177) hC dX12_watch_156 dX12_watch_157 (by decide) (fun c_156 => ?_) (fun c_156 => ?_)
      · skip
        exact hend _ _ _ _ _ (by simp only [sX12_watch_S, if_pos c_128, if_pos c_156]) hW dX12_watch_177
      · skip
        refine lv_aload_n hx hb dX12_watch_160 rfl (lv_at hl 1 rfl) ?_
        refine q_get hC hW kX12_41 0 (Mg0 cc ad (KX12_watch_123_S S i)) (v := .ref (ad 11)) rfl dX12_watch_161 ?_
        refine lv_bipush (v := 49) hx hb dX12_watch_164 (by decide) ?_
        refine q_lald hC hW 11 (Mg11 cc ad (KX12_watch_123_S S i)) (v := ((KX12_watch_123_S S i).2 11 49)) 49 rfl (by omega) (by decide) rfl dX12_watch_166 ?_
        refine lv_lconst (v := 1) hx hb dX12_watch_167 rfl ?_
        refine q_jeq (tgt := 177) hC dX12_watch_168 dX12_watch_169 (by decide) (fun c_168 => ?_) (fun c_168 => ?_)
        · skip
          exact hend _ _ _ _ _ (by simp only [sX12_watch_S, if_pos c_128, if_neg c_156, if_pos c_168]) hW dX12_watch_177
        · skip
          refine lv_aload_n hx hb dX12_watch_172 rfl (lv_at hl 1 rfl) ?_
          refine lv_iload_n hx hb dX12_watch_173 rfl (lv_at hl 2 rfl) ?_
          refine q_VV hC hW (c_X12_breaks l D cc ad (KX12_watch_123_S S i) (nI i) hI_1) mX12_183 0 (Mg0 cc ad (KX12_watch_123_S S i)) rfl (by decide) rfl hl.1 rfl (Nat.le_of_ble_eq_true rfl) (by decide) dX12_watch_174 (fun H locs hW => ?_)
          have hI_2 : InvM (sX12_breaks_S (KX12_watch_123_S S i) (nI i)) := inv_X12_breaks (KX12_watch_123_S S i) (nI i) hI_1
          obtain ⟨⟨-, hn1_hI_2, hn2_hI_2⟩, ⟨-, hq_hI_2⟩, -, ⟨-, hh_hI_2⟩, hs_hI_2⟩ := id hI_2
          exact hend _ _ _ _ _ (by simp only [sX12_watch_S, if_pos c_128, if_neg c_156, if_neg c_168]) hW dX12_watch_177
    · skip
      refine lv_aload_n hx hb dX12_watch_131 rfl (lv_at hl 0 rfl) ?_
      refine q_get hC hW kX12_82 0 (Mg0 cc ad (KX12_watch_123_S S i)) (v := .long ((KX12_watch_123_S S i).2 0 2)) rfl dX12_watch_132 ?_
      refine lv_aload_n hx hb dX12_watch_135 rfl (lv_at hl 0 rfl) ?_
      refine q_get hC hW kX12_87 0 (Mg0 cc ad (KX12_watch_123_S S i)) (v := .long ((KX12_watch_123_S S i).2 0 3)) rfl dX12_watch_136 ?_
      refine lv_lmul hx hb dX12_watch_139 ?_
      refine q_ldc2 hC nX12_98 dX12_watch_140 ?_
      refine lv_ldiv hx hb dX12_watch_143 (by decide) ?_
      refine lv_goto (tgt := 151) hx hb dX12_watch_144 (by decide) ?_
      refine lv_lstore (lv' := [(7, .long ((((KX12_watch_123_S S i).2 0 2) * ((KX12_watch_123_S S i).2 0 3)) / 1000)), (0, .ref (ad 0)), (1, .int (nI i)), (2, .int (nI (8 * i))), (3, .long (sX12_tension S i))]) hx hb dX12_watch_151 hl (by decide) rfl (fun ls hl => ?_)
      refine lv_lload_n hx hb dX12_watch_153 rfl (lv_at hl 4 rfl) ?_
      refine lv_lload hx hb dX12_watch_154 (lv_at hl 0 rfl) ?_
      refine q_jle (tgt := 177) hC dX12_watch_156 dX12_watch_157 (by decide) (fun c_156 => ?_) (fun c_156 => ?_)
      · skip
        exact hend _ _ _ _ _ (by simp only [sX12_watch_S, if_neg c_128, if_pos c_156]) hW dX12_watch_177
      · skip
        refine lv_aload_n hx hb dX12_watch_160 rfl (lv_at hl 1 rfl) ?_
        refine q_get hC hW kX12_41 0 (Mg0 cc ad (KX12_watch_123_S S i)) (v := .ref (ad 11)) rfl dX12_watch_161 ?_
        refine lv_bipush (v := 49) hx hb dX12_watch_164 (by decide) ?_
        refine q_lald hC hW 11 (Mg11 cc ad (KX12_watch_123_S S i)) (v := ((KX12_watch_123_S S i).2 11 49)) 49 rfl (by omega) (by decide) rfl dX12_watch_166 ?_
        refine lv_lconst (v := 1) hx hb dX12_watch_167 rfl ?_
        refine q_jeq (tgt := 177) hC dX12_watch_168 dX12_watch_169 (by decide) (fun c_168 => ?_) (fun c_168 => ?_)
        · skip
          exact hend _ _ _ _ _ (by simp only [sX12_watch_S, if_neg c_128, if_neg c_156, if_pos c_168]) hW dX12_watch_177
        · skip
          refine lv_aload_n hx hb dX12_watch_172 rfl (lv_at hl 1 rfl) ?_
          refine lv_iload_n hx hb dX12_watch_173 rfl (lv_at hl 2 rfl) ?_
          refine q_VV hC hW (c_X12_breaks l D cc ad (KX12_watch_123_S S i) (nI i) hI_1) mX12_183 0 (Mg0 cc ad (KX12_watch_123_S S i)) rfl (by decide) rfl hl.1 rfl (Nat.le_of_ble_eq_true rfl) (by decide) dX12_watch_174 (fun H locs hW => ?_)
          have hI_3 : InvM (sX12_breaks_S (KX12_watch_123_S S i) (nI i)) := inv_X12_breaks (KX12_watch_123_S S i) (nI i) hI_1
          obtain ⟨⟨-, hn1_hI_3, hn2_hI_3⟩, ⟨-, hq_hI_3⟩, -, ⟨-, hh_hI_3⟩, hs_hI_3⟩ := id hI_3
          exact hend _ _ _ _ _ (by simp only [sX12_watch_S, if_neg c_128, if_neg c_156, if_neg c_168]) hW dX12_watch_177
  have hcut101 : ∀ (H : Heap) (locs : List Loc) (ls : Array Slot), Wd D cc (MW cc ad (KX12_watch_101_S S i)) A s.heap H locs s → lv_has ls 9 [(0, .ref (ad 0)), (1, .int (nI i)), (2, .int (nI (8 * i))), (3, .long (sX12_tension S i)), (5, .long ((KX12_watch_47_S S i).2 11 (8 * i + 5)))] → W p l e (rmD 3) s m args below meth c H locs 0 0 Q (F0 m 101 ls []) := by
    intro H locs ls hW hl
    have hI_4 : InvM (KX12_watch_101_S S i) := invK101_watch S i hi hI
    obtain ⟨⟨-, hn1_hI_4, hn2_hI_4⟩, ⟨-, hq_hI_4⟩, -, ⟨-, hh_hI_4⟩, hs_hI_4⟩ := id hI_4
    refine lv_lload_n hx hb dX12_watch_101 rfl (lv_at hl 3 rfl) ?_
    refine lv_lconst (v := 0) hx hb dX12_watch_102 rfl ?_
    refine q_jle (tgt := 123) hC dX12_watch_103 dX12_watch_104 (by decide) (fun c_103 => ?_) (fun c_103 => ?_)
    · skip
      exact hcut123 _ _ _ (by simp only [KX12_watch_123_S, if_pos c_103]; exact hW) (lv_sub hl [0, 1, 2, 3] rfl)
    · skip
      refine lv_lload hx hb dX12_watch_107 (lv_at hl 4 rfl) ?_
      refine q_ldc2 hC nX12_197 dX12_watch_109 ?_
      refine q_jlt (tgt := 123) hC dX12_watch_112 dX12_watch_113 (by decide) (fun c_112 => ?_) (fun c_112 => ?_)
      · skip
        exact hcut123 _ _ _ (by simp only [KX12_watch_123_S, if_neg c_103, if_pos c_112]; exact hW) (lv_sub hl [0, 1, 2, 3] rfl)
      · skip
        refine lv_aload_n hx hb dX12_watch_116 rfl (lv_at hl 0 rfl) ?_
        refine lv_iconst (v := 3) hx hb dX12_watch_117 (by decide) ?_
        refine lv_iload_n hx hb dX12_watch_118 rfl (lv_at hl 1 rfl) ?_
        refine lv_i2l (v := lN i) hx hb dX12_watch_119 (nI_l (by omega)) ?_
        refine q_VV hC hW (c_X12_happens l D cc ad (KX12_watch_101_S S i) 3 (lN i) (mH (KX12_watch_101_S S i)) hI_4.2.2.2.1.1 (by omega)) mX12_172 0 (Mg0 cc ad (KX12_watch_101_S S i)) rfl (by decide) rfl hl.1 rfl (Nat.le_of_ble_eq_true rfl) (by decide) dX12_watch_120 (fun H locs hW => ?_)
        have hI_5 : InvM (sX12_happens_S (KX12_watch_101_S S i) 3 (lN i) (mH (KX12_watch_101_S S i))) := inv_X12_happens (KX12_watch_101_S S i) 3 (lN i) (mH (KX12_watch_101_S S i)) hI_4.2.2.2.1.1 (by omega) hI_4
        obtain ⟨⟨-, hn1_hI_5, hn2_hI_5⟩, ⟨-, hq_hI_5⟩, -, ⟨-, hh_hI_5⟩, hs_hI_5⟩ := id hI_5
        exact hcut123 _ _ _ (by simp only [KX12_watch_123_S, if_neg c_103, if_neg c_112]; exact hW) (lv_sub hl [0, 1, 2, 3] rfl)
  have hcut79 : ∀ (H : Heap) (locs : List Loc) (ls : Array Slot), Wd D cc (MW cc ad (KX12_watch_79_S S i)) A s.heap H locs s → lv_has ls 9 [(0, .ref (ad 0)), (1, .int (nI i)), (2, .int (nI (8 * i))), (3, .long (sX12_tension S i)), (5, .long ((KX12_watch_47_S S i).2 11 (8 * i + 5)))] → W p l e (rmD 3) s m args below meth c H locs 0 0 Q (F0 m 79 ls []) := by
    intro H locs ls hW hl
    have hI_6 : InvM (KX12_watch_79_S S i) := invK79_watch S i hi hI
    obtain ⟨⟨-, hn1_hI_6, hn2_hI_6⟩, ⟨-, hq_hI_6⟩, -, ⟨-, hh_hI_6⟩, hs_hI_6⟩ := id hI_6
    refine lv_aload_n hx hb dX12_watch_79 rfl (lv_at hl 0 rfl) ?_
    refine q_get hC hW kX12_41 0 (Mg0 cc ad (KX12_watch_79_S S i)) (v := .ref (ad 11)) rfl dX12_watch_80 ?_
    refine lv_iload_n hx hb dX12_watch_83 rfl (lv_at hl 2 rfl) ?_
    refine lv_iconst (v := 5) hx hb dX12_watch_84 (by decide) ?_
    refine lv_iadd hx hb dX12_watch_85 ?_
    refine q_ri (v := nI (8 * i + 5)) ((nq_add (a := (8 * i)) (b := 5) rfl rfl).trans (congrArg nI (by omega))) ?_
    refine q_lald hC hW 11 (Mg11 cc ad (KX12_watch_79_S S i)) (v := ((KX12_watch_79_S S i).2 11 (8 * i + 5))) (8 * i + 5) rfl (by omega) (by decide) rfl dX12_watch_86 ?_
    refine q_ldc2 hC nX12_197 dX12_watch_87 ?_
    refine q_jne (tgt := 101) hC dX12_watch_90 dX12_watch_91 (by decide) (fun c_90 => ?_) (fun c_90 => ?_)
    · skip
      exact hcut101 _ _ _ (by simp only [KX12_watch_101_S, if_neg c_90]; exact hW) (lv_sub hl [0, 1, 2, 3, 4] rfl)
    · skip
      refine lv_aload_n hx hb dX12_watch_94 rfl (lv_at hl 0 rfl) ?_
      refine lv_iconst (v := 2) hx hb dX12_watch_95 (by decide) ?_
      refine lv_iload_n hx hb dX12_watch_96 rfl (lv_at hl 1 rfl) ?_
      refine lv_i2l (v := lN i) hx hb dX12_watch_97 (nI_l (by omega)) ?_
      refine q_VV hC hW (c_X12_happens l D cc ad (KX12_watch_79_S S i) 2 (lN i) (mH (KX12_watch_79_S S i)) hI_6.2.2.2.1.1 (by omega)) mX12_172 0 (Mg0 cc ad (KX12_watch_79_S S i)) rfl (by decide) rfl hl.1 rfl (Nat.le_of_ble_eq_true rfl) (by decide) dX12_watch_98 (fun H locs hW => ?_)
      have hI_7 : InvM (sX12_happens_S (KX12_watch_79_S S i) 2 (lN i) (mH (KX12_watch_79_S S i))) := inv_X12_happens (KX12_watch_79_S S i) 2 (lN i) (mH (KX12_watch_79_S S i)) hI_6.2.2.2.1.1 (by omega) hI_6
      obtain ⟨⟨-, hn1_hI_7, hn2_hI_7⟩, ⟨-, hq_hI_7⟩, -, ⟨-, hh_hI_7⟩, hs_hI_7⟩ := id hI_7
      exact hcut101 _ _ _ (by simp only [KX12_watch_101_S, if_pos c_90]; exact hW) (lv_sub hl [0, 1, 2, 3, 4] rfl)
  have hcut47 : ∀ (H : Heap) (locs : List Loc) (ls : Array Slot), Wd D cc (MW cc ad (KX12_watch_47_S S i)) A s.heap H locs s → lv_has ls 9 [(0, .ref (ad 0)), (1, .int (nI i)), (2, .int (nI (8 * i))), (3, .long (sX12_tension S i))] → W p l e (rmD 3) s m args below meth c H locs 0 0 Q (F0 m 47 ls []) := by
    intro H locs ls hW hl
    have hI_8 : InvM (KX12_watch_47_S S i) := invK47_watch S i hi hI
    obtain ⟨⟨-, hn1_hI_8, hn2_hI_8⟩, ⟨-, hq_hI_8⟩, -, ⟨-, hh_hI_8⟩, hs_hI_8⟩ := id hI_8
    refine lv_aload_n hx hb dX12_watch_47 rfl (lv_at hl 0 rfl) ?_
    refine q_get hC hW kX12_41 0 (Mg0 cc ad (KX12_watch_47_S S i)) (v := .ref (ad 11)) rfl dX12_watch_48 ?_
    refine lv_iload_n hx hb dX12_watch_51 rfl (lv_at hl 2 rfl) ?_
    refine lv_iconst (v := 5) hx hb dX12_watch_52 (by decide) ?_
    refine lv_iadd hx hb dX12_watch_53 ?_
    refine q_ri (v := nI (8 * i + 5)) ((nq_add (a := (8 * i)) (b := 5) rfl rfl).trans (congrArg nI (by omega))) ?_
    refine q_lald hC hW 11 (Mg11 cc ad (KX12_watch_47_S S i)) (v := ((KX12_watch_47_S S i).2 11 (8 * i + 5))) (8 * i + 5) rfl (by omega) (by decide) rfl dX12_watch_54 ?_
    refine lv_lstore (lv' := [(5, .long ((KX12_watch_47_S S i).2 11 (8 * i + 5))), (0, .ref (ad 0)), (1, .int (nI i)), (2, .int (nI (8 * i))), (3, .long (sX12_tension S i))]) hx hb dX12_watch_55 hl (by decide) rfl (fun ls hl => ?_)
    refine lv_aload_n hx hb dX12_watch_57 rfl (lv_at hl 1 rfl) ?_
    refine q_get hC hW kX12_41 0 (Mg0 cc ad (KX12_watch_47_S S i)) (v := .ref (ad 11)) rfl dX12_watch_58 ?_
    refine lv_iload_n hx hb dX12_watch_61 rfl (lv_at hl 3 rfl) ?_
    refine lv_iconst (v := 5) hx hb dX12_watch_62 (by decide) ?_
    refine lv_iadd hx hb dX12_watch_63 ?_
    refine q_ri (v := nI (8 * i + 5)) ((nq_add (a := (8 * i)) (b := 5) rfl rfl).trans (congrArg nI (by omega))) ?_
    refine lv_lload_n hx hb dX12_watch_64 rfl (lv_at hl 4 rfl) ?_
    refine lv_lconst (v := 0) hx hb dX12_watch_65 rfl ?_
    refine q_jne (tgt := 77) hC dX12_watch_66 dX12_watch_67 (by decide) (fun c_66 => ?_) (fun c_66 => ?_)
    · skip
      refine lv_lconst (v := 0) hx hb dX12_watch_77 rfl ?_
      refine q_last hC hW 11 (Mg11 cc ad (KX12_watch_47_S S i)) (8 * i + 5) rfl (by omega) (by decide) (Ms11 cc ad (KX12_watch_47_S S i) (8 * i + 5) 0) dX12_watch_78 (fun H locs hW => ?_)
      exact hcut79 _ _ _ (by simp only [KX12_watch_79_S, if_neg c_66]; exact hW) (lv_sub hl [1, 2, 3, 4, 0] rfl)
    · skip
      refine lv_lload hx hb dX12_watch_70 (lv_at hl 0 rfl) ?_
      refine lv_lconst (v := 1) hx hb dX12_watch_72 rfl ?_
      refine lv_ladd hx hb dX12_watch_73 ?_
      refine lv_goto (tgt := 78) hx hb dX12_watch_74 (by decide) ?_
      refine q_last hC hW 11 (Mg11 cc ad (KX12_watch_47_S S i)) (8 * i + 5) rfl (by omega) (by decide) (Ms11 cc ad (KX12_watch_47_S S i) (8 * i + 5) (((KX12_watch_47_S S i).2 11 (8 * i + 5)) + 1)) dX12_watch_78 (fun H locs hW => ?_)
      exact hcut79 _ _ _ (by simp only [KX12_watch_79_S, if_pos c_66]; exact hW) (lv_sub hl [1, 2, 3, 4, 0] rfl)
  refine lv_bipush (v := 8) hx hb dX12_watch_0 (by decide) ?_
  refine lv_iload_n hx hb dX12_watch_2 rfl (lv_at hl 1 rfl) ?_
  refine lv_imul hx hb dX12_watch_3 ?_
  refine q_ri (v := nI (8 * i)) (nq_mul (a := 8) (b := i) rfl rfl) ?_
  refine lv_istore_n (lv' := [(2, .int (nI (8 * i))), (0, .ref (ad 0)), (1, .int (nI i))]) hx hb dX12_watch_4 rfl hl (by decide) rfl (fun ls hl => ?_)
  refine lv_aload_n hx hb dX12_watch_5 rfl (lv_at hl 1 rfl) ?_
  refine lv_iload_n hx hb dX12_watch_6 rfl (lv_at hl 2 rfl) ?_
  refine q_VL hC hW (c_X12_tension l D cc ad S i (by omega) hu) mX12_186 0 (Mg0 cc ad S) rfl (by decide) rfl hl.1 rfl (Nat.le_of_ble_eq_true rfl) (by decide) dX12_watch_7 (fun H locs hW => ?_)
  refine lv_lstore_n (lv' := [(3, .long (sX12_tension S i)), (2, .int (nI (8 * i))), (0, .ref (ad 0)), (1, .int (nI i))]) hx hb dX12_watch_10 rfl hl (by decide) rfl (fun ls hl => ?_)
  refine lv_aload_n hx hb dX12_watch_11 rfl (lv_at hl 2 rfl) ?_
  refine q_get hC hW kX12_41 0 (Mg0 cc ad S) (v := .ref (ad 11)) rfl dX12_watch_12 ?_
  refine lv_iload_n hx hb dX12_watch_15 rfl (lv_at hl 1 rfl) ?_
  refine lv_bipush (v := 6) hx hb dX12_watch_16 (by decide) ?_
  refine lv_iadd hx hb dX12_watch_18 ?_
  refine q_ri (v := nI (8 * i + 6)) ((nq_add (a := (8 * i)) (b := 6) rfl rfl).trans (congrArg nI (by omega))) ?_
  refine lv_lload_n hx hb dX12_watch_19 rfl (lv_at hl 0 rfl) ?_
  refine lv_aload_n hx hb dX12_watch_20 rfl (lv_at hl 2 rfl) ?_
  refine q_get hC hW kX12_41 0 (Mg0 cc ad S) (v := .ref (ad 11)) rfl dX12_watch_21 ?_
  refine lv_iload_n hx hb dX12_watch_24 rfl (lv_at hl 1 rfl) ?_
  refine lv_bipush (v := 6) hx hb dX12_watch_25 (by decide) ?_
  refine lv_iadd hx hb dX12_watch_27 ?_
  refine q_ri (v := nI (8 * i + 6)) ((nq_add (a := (8 * i)) (b := 6) rfl rfl).trans (congrArg nI (by omega))) ?_
  refine q_lald hC hW 11 (Mg11 cc ad S) (v := (S.2 11 (8 * i + 6))) (8 * i + 6) rfl (by omega) (by decide) rfl dX12_watch_28 ?_
  refine q_jle (tgt := 37) hC dX12_watch_29 dX12_watch_30 (by decide) (fun c_29 => ?_) (fun c_29 => ?_)
  · skip
    refine lv_aload_n hx hb dX12_watch_37 rfl (lv_at hl 2 rfl) ?_
    refine q_get hC hW kX12_41 0 (Mg0 cc ad S) (v := .ref (ad 11)) rfl dX12_watch_38 ?_
    refine lv_iload_n hx hb dX12_watch_41 rfl (lv_at hl 1 rfl) ?_
    refine lv_bipush (v := 6) hx hb dX12_watch_42 (by decide) ?_
    refine lv_iadd hx hb dX12_watch_44 ?_
    refine q_ri (v := nI (8 * i + 6)) ((nq_add (a := (8 * i)) (b := 6) rfl rfl).trans (congrArg nI (by omega))) ?_
    refine q_lald hC hW 11 (Mg11 cc ad S) (v := (S.2 11 (8 * i + 6))) (8 * i + 6) rfl (by omega) (by decide) rfl dX12_watch_45 ?_
    refine q_last hC hW 11 (Mg11 cc ad S) (8 * i + 6) rfl (by omega) (by decide) (Ms11 cc ad S (8 * i + 6) (S.2 11 (8 * i + 6))) dX12_watch_46 (fun H locs hW => ?_)
    exact hcut47 _ _ _ (by simp only [KX12_watch_47_S, if_pos c_29]; exact hW) (lv_sub hl [2, 3, 1, 0] rfl)
  · skip
    refine lv_lload_n hx hb dX12_watch_33 rfl (lv_at hl 0 rfl) ?_
    refine lv_goto (tgt := 46) hx hb dX12_watch_34 (by decide) ?_
    refine q_last hC hW 11 (Mg11 cc ad S) (8 * i + 6) rfl (by omega) (by decide) (Ms11 cc ad S (8 * i + 6) (sX12_tension S i)) dX12_watch_46 (fun H locs hW => ?_)
    exact hcut47 _ _ _ (by simp only [KX12_watch_47_S, if_neg c_29]; exact hW) (lv_sub hl [2, 3, 1, 0] rfl)
