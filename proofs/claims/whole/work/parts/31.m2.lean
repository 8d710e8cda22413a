theorem inv_X12_hurry (S : St) (hI : InvM S) : InvM (sX12_hurry_S S) := by
  unfold sX12_hurry_S
  repeat' split
  all_goals exact hI
/-- how many at the head of the marks lie at least so far behind -/
def xGone (g : Nat → Int64) (w : Int64) : Nat → Nat → Nat
  | 0, k => k
  | n + 1, k => if g k < w then k else xGone g w n (k + 1)
theorem xGone_le (g : Nat → Int64) (w : Int64) : ∀ n k : Nat, k ≤ xGone g w n k ∧ xGone g w n k ≤ k + n
  | 0, k => by simp [xGone]
  | n + 1, k => by
    unfold xGone
    split
    · omega
    · have := xGone_le g w n (k + 1)
      omega
theorem lN_sub1 {n : Nat} (h : 1 ≤ n) : lN n - 1 = lN (n - 1) := lN_sub h
def LX12_happens_23_S (S : St) (x : Int32) (y : Int64) (mh : Nat) : Nat → St
  | 0 => S
  | k + 1 => (sJ (LX12_happens_23_S S x y mh k) 13 k ((LX12_happens_23_S S x y mh k).2 13 (k + 3)))
theorem L1_happens (S : St) (x : Int32) (y : Int64) (mh k a b : Nat) : (LX12_happens_23_S S x y mh k).1 a b = S.1 a b := by
  induction k with
  | zero => rfl
  | succ k ih => exact ih
theorem L2_happens (S : St) (x : Int32) (y : Int64) (mh k a b : Nat) (ha : ¬ a = 13) : (LX12_happens_23_S S x y mh k).2 a b = S.2 a b := by
  induction k with
  | zero => rfl
  | succ k ih =>
    unfold LX12_happens_23_S
    rw [rJ_sJ, if_neg (by omega)]
    exact ih
def sX12_happens_S (S : St) (x : Int32) (y : Int64) (mh : Nat) : St := (if mh = 30 then (sJ (sJ (sJ (sJ (LX12_happens_23_S S x y mh (3 * (mh - 1))) 13 (3 * (mh - 1)) (S.2 11 48)) 13 ((3 * (mh - 1)) + 1) (x.toInt64)) 13 ((3 * (mh - 1)) + 2) y) 11 63 (lN ((mh - 1) + 1))) else (sJ (sJ (sJ (sJ S 13 (3 * mh) (S.2 11 48)) 13 (3 * mh + 1) (x.toInt64)) 13 (3 * mh + 2) y) 11 63 (lN (mh + 1))))
set_option maxHeartbeats 4000000 in
set_option maxRecDepth 100000 in
theorem c_X12_happens (l : Launch) (D : va_G) (cc : Nat → ClassId) (ad : Nat → Nat) (S : St) (x : Int32) (y : Int64) (mh : Nat) (hh : S.2 11 63 = lN mh) (hh3 : mh ≤ 30) : CtV l D cc yX12_happens cX12_happens 6 0 [.ref (ad 0), .int x, .long y] (MW cc ad S) (MW cc ad (sX12_happens_S S x y mh)) := by
  refine CtV.of (plainFor_of_name (by decide +kernel)) (Nat.le_of_ble_eq_true rfl) ?_
  intro p e s m args below meth c A Q hC hW hend ls hl
  obtain ⟨⟨hx, hb, hml, hown, hts⟩, hNW⟩ := id hC
  have hl : lv_has ls 6 [(0, .ref (ad 0)), (1, .int x), (2, .long y)] := hl
  refine lv_aload_n hx hb dX12_happens_0 rfl (lv_at hl 0 rfl) ?_
  refine q_get hC hW kX12_41 0 (Mg0 cc ad S) (v := .ref (ad 11)) rfl dX12_happens_1 ?_
  refine lv_bipush (v := 63) hx hb dX12_happens_4 (by decide) ?_
  refine q_lald hC hW 11 (Mg11 cc ad S) (v := (lN mh)) 63 rfl (by omega) (by decide) hh dX12_happens_6 ?_
  refine lv_l2i (v := nI mh) hx hb dX12_happens_7 (lN_i _) ?_
  refine lv_istore (lv' := [(4, .int (nI mh)), (0, .ref (ad 0)), (1, .int x), (2, .long y)]) hx hb dX12_happens_8 hl (by decide) rfl (fun ls hl => ?_)
  refine lv_iload hx hb dX12_happens_10 (lv_at hl 0 rfl) ?_
  refine lv_bipush (v := 30) hx hb dX12_happens_12 (by decide) ?_
  refine q_icmp_ne_n (tgt := 54) hx hb (a := mh) (b := 30) rfl rfl (by omega) (by omega) dX12_happens_14 (by decide) (fun c_14 => ?_) (fun c_14 => ?_)
  · skip
    refine lv_aload_n hx hb dX12_happens_54 rfl (lv_at hl 1 rfl) ?_
    refine q_get hC hW kX12_47 0 (Mg0 cc ad S) (v := .ref (ad 13)) rfl dX12_happens_55 ?_
    refine lv_iconst (v := 3) hx hb dX12_happens_58 (by decide) ?_
    refine lv_iload hx hb dX12_happens_59 (lv_at hl 0 rfl) ?_
    refine lv_imul hx hb dX12_happens_61 ?_
    refine q_ri (v := nI (3 * mh)) (nq_mul (a := 3) (b := mh) rfl rfl) ?_
    refine lv_aload_n hx hb dX12_happens_62 rfl (lv_at hl 1 rfl) ?_
    refine q_get hC hW kX12_41 0 (Mg0 cc ad S) (v := .ref (ad 11)) rfl dX12_happens_63 ?_
    refine lv_bipush (v := 48) hx hb dX12_happens_66 (by decide) ?_
    refine q_lald hC hW 11 (Mg11 cc ad S) (v := (S.2 11 48)) 48 rfl (by omega) (by decide) rfl dX12_happens_68 ?_
    refine q_last hC hW 13 (Mg13 cc ad S) (3 * mh) rfl (by omega) (by decide) (Ms13 cc ad S (3 * mh) (S.2 11 48)) dX12_happens_69 (fun H locs hW => ?_)
    refine lv_aload_n hx hb dX12_happens_70 rfl (lv_at hl 1 rfl) ?_
    refine q_get hC hW kX12_47 0 (Mg0 cc ad (sJ S 13 (3 * mh) (S.2 11 48))) (v := .ref (ad 13)) rfl dX12_happens_71 ?_
    refine lv_iconst (v := 3) hx hb dX12_happens_74 (by decide) ?_
    refine lv_iload hx hb dX12_happens_75 (lv_at hl 0 rfl) ?_
    refine lv_imul hx hb dX12_happens_77 ?_
    refine q_ri (v := nI (3 * mh)) (nq_mul (a := 3) (b := mh) rfl rfl) ?_
    refine lv_iconst (v := 1) hx hb dX12_happens_78 (by decide) ?_
    refine lv_iadd hx hb dX12_happens_79 ?_
    refine q_ri (v := nI (3 * mh + 1)) ((nq_add (a := (3 * mh)) (b := 1) rfl rfl).trans (congrArg nI (by omega))) ?_
    refine lv_iload_n hx hb dX12_happens_80 rfl (lv_at hl 2 rfl) ?_
    refine lv_i2l hx hb dX12_happens_81 rfl ?_
    refine q_last hC hW 13 (Mg13 cc ad (sJ S 13 (3 * mh) (S.2 11 48))) (3 * mh + 1) rfl (by omega) (by decide) (Ms13 cc ad (sJ S 13 (3 * mh) (S.2 11 48)) (3 * mh + 1) (x.toInt64)) dX12_happens_82 (fun H locs hW => ?_)
    refine lv_aload_n hx hb dX12_happens_83 rfl (lv_at hl 1 rfl) ?_
    refine q_get hC hW kX12_47 0 (Mg0 cc ad (sJ (sJ S 13 (3 * mh) (S.2 11 48)) 13 (3 * mh + 1) (x.toInt64))) (v := .ref (ad 13)) rfl dX12_happens_84 ?_
    refine lv_iconst (v := 3) hx hb dX12_happens_87 (by decide) ?_
    refine lv_iload hx hb dX12_happens_88 (lv_at hl 0 rfl) ?_
    refine lv_imul hx hb dX12_happens_90 ?_
    refine q_ri (v := nI (3 * mh)) (nq_mul (a := 3) (b := mh) rfl rfl) ?_
    refine lv_iconst (v := 2) hx hb dX12_happens_91 (by decide) ?_
    refine lv_iadd hx hb dX12_happens_92 ?_
    refine q_ri (v := nI (3 * mh + 2)) ((nq_add (a := (3 * mh)) (b := 2) rfl rfl).trans (congrArg nI (by omega))) ?_
    refine lv_lload_n hx hb dX12_happens_93 rfl (lv_at hl 3 rfl) ?_
    refine q_last hC hW 13 (Mg13 cc ad (sJ (sJ S 13 (3 * mh) (S.2 11 48)) 13 (3 * mh + 1) (x.toInt64))) (3 * mh + 2) rfl (by omega) (by decide) (Ms13 cc ad (sJ (sJ S 13 (3 * mh) (S.2 11 48)) 13 (3 * mh + 1) (x.toInt64)) (3 * mh + 2) y) dX12_happens_94 (fun H locs hW => ?_)
    refine lv_aload_n hx hb dX12_happens_95 rfl (lv_at hl 1 rfl) ?_
    refine q_get hC hW kX12_41 0 (Mg0 cc ad (sJ (sJ (sJ S 13 (3 * mh) (S.2 11 48)) 13 (3 * mh + 1) (x.toInt64)) 13 (3 * mh + 2) y)) (v := .ref (ad 11)) rfl dX12_happens_96 ?_
    refine lv_bipush (v := 63) hx hb dX12_happens_99 (by decide) ?_
    refine lv_iload hx hb dX12_happens_101 (lv_at hl 0 rfl) ?_
    refine lv_iconst (v := 1) hx hb dX12_happens_103 (by decide) ?_
    refine lv_iadd hx hb dX12_happens_104 ?_
    refine q_ri (v := nI (mh + 1)) (nq_add (a := mh) (b := 1) rfl rfl) ?_
    refine lv_i2l (v := lN (mh + 1)) hx hb dX12_happens_105 (nI_l (by omega)) ?_
    refine q_last hC hW 11 (Mg11 cc ad (sJ (sJ (sJ S 13 (3 * mh) (S.2 11 48)) 13 (3 * mh + 1) (x.toInt64)) 13 (3 * mh + 2) y)) 63 rfl (by omega) (by decide) (Ms11 cc ad (sJ (sJ (sJ S 13 (3 * mh) (S.2 11 48)) 13 (3 * mh + 1) (x.toInt64)) 13 (3 * mh + 2) y) 63 (lN (mh + 1))) dX12_happens_106 (fun H locs hW => ?_)
    exact hend _ _ _ _ _ (by simp only [sX12_happens_S, if_neg c_14]) hW dX12_happens_107
  · skip
    refine lv_iinc (v := (nI (mh - 1))) (lv' := [(4, .int (nI (mh - 1))), (0, .ref (ad 0)), (1, .int x), (2, .long y)]) hx hb dX12_happens_17 hl (k := 0) rfl (nq_dec mh (by omega)) (by decide) rfl (fun ls hl => ?_)
    refine lv_iconst (v := 0) hx hb dX12_happens_20 (by decide) ?_
    refine lv_istore (lv' := [(5, .int 0), (4, .int (nI (mh - 1))), (0, .ref (ad 0)), (1, .int x), (2, .long y)]) hx hb dX12_happens_21 hl (by decide) rfl (fun ls hl => ?_)
    have loop1 : ∀ (rn k : Nat), k + rn = (3 * (mh - 1)) → ∀ (H : Heap) (locs : List Loc) (ls : Array Slot), Wd D cc (MW cc ad (LX12_happens_23_S S x y mh k)) A s.heap H locs s → lv_has ls 6 [(0, .ref (ad 0)), (1, .int x), (2, .long y), (4, .int (nI (mh - 1))), (5, .int (nI k))] → W p l e (rmD 0) s m args below meth c H locs 0 0 Q (F0 m 23 ls []) := by
      intro rn
      induction rn with
      | zero =>
        intro k hk H locs ls hW hl
        obtain rfl : (3 * (mh - 1)) = k := by omega
        refine lv_iload hx hb dX12_happens_23 (lv_at hl 4 rfl) ?_
        refine lv_iconst (v := 3) hx hb dX12_happens_25 (by decide) ?_
        refine lv_iload hx hb dX12_happens_26 (lv_at hl 3 rfl) ?_
        refine lv_imul hx hb dX12_happens_28 ?_
        refine q_ri (v := nI (3 * (mh - 1))) (nq_mul (a := 3) (b := (mh - 1)) rfl rfl) ?_
        refine q_icmp_ge_n (tgt := 54) hx hb (a := (3 * (mh - 1))) (b := (3 * (mh - 1))) rfl rfl (by omega) (by omega) dX12_happens_29 (by decide) (fun c_29 => ?_) (fun c_29 => by exfalso; omega)
        refine lv_aload_n hx hb dX12_happens_54 rfl (lv_at hl 0 rfl) ?_
        refine q_get hC hW kX12_47 0 (Mg0 cc ad (LX12_happens_23_S S x y mh (3 * (mh - 1)))) (v := .ref (ad 13)) rfl dX12_happens_55 ?_
        refine lv_iconst (v := 3) hx hb dX12_happens_58 (by decide) ?_
        refine lv_iload hx hb dX12_happens_59 (lv_at hl 3 rfl) ?_
        refine lv_imul hx hb dX12_happens_61 ?_
        refine q_ri (v := nI (3 * (mh - 1))) (nq_mul (a := 3) (b := (mh - 1)) rfl rfl) ?_
        refine lv_aload_n hx hb dX12_happens_62 rfl (lv_at hl 0 rfl) ?_
        refine q_get hC hW kX12_41 0 (Mg0 cc ad (LX12_happens_23_S S x y mh (3 * (mh - 1)))) (v := .ref (ad 11)) rfl dX12_happens_63 ?_
        refine lv_bipush (v := 48) hx hb dX12_happens_66 (by decide) ?_
        refine q_lald hC hW 11 (Mg11 cc ad (LX12_happens_23_S S x y mh (3 * (mh - 1)))) (v := (S.2 11 48)) 48 rfl (by omega) (by decide) ((L2_happens  S x y mh (3 * (mh - 1)) 11 48 (by decide))) dX12_happens_68 ?_
        refine q_last hC hW 13 (Mg13 cc ad (LX12_happens_23_S S x y mh (3 * (mh - 1)))) (3 * (mh - 1)) rfl (by omega) (by decide) (Ms13 cc ad (LX12_happens_23_S S x y mh (3 * (mh - 1))) (3 * (mh - 1)) (S.2 11 48)) dX12_happens_69 (fun H locs hW => ?_)
        refine lv_aload_n hx hb dX12_happens_70 rfl (lv_at hl 0 rfl) ?_
        refine q_get hC hW kX12_47 0 (Mg0 cc ad (sJ (LX12_happens_23_S S x y mh (3 * (mh - 1))) 13 (3 * (mh - 1)) (S.2 11 48))) (v := .ref (ad 13)) rfl dX12_happens_71 ?_
        refine lv_iconst (v := 3) hx hb dX12_happens_74 (by decide) ?_
        refine lv_iload hx hb dX12_happens_75 (lv_at hl 3 rfl) ?_
        refine lv_imul hx hb dX12_happens_77 ?_
        refine q_ri (v := nI (3 * (mh - 1))) (nq_mul (a := 3) (b := (mh - 1)) rfl rfl) ?_
        refine lv_iconst (v := 1) hx hb dX12_happens_78 (by decide) ?_
        refine lv_iadd hx hb dX12_happens_79 ?_
        refine q_ri (v := nI ((3 * (mh - 1)) + 1)) (nq_add (a := (3 * (mh - 1))) (b := 1) rfl rfl) ?_
        refine lv_iload_n hx hb dX12_happens_80 rfl (lv_at hl 1 rfl) ?_
        refine lv_i2l hx hb dX12_happens_81 rfl ?_
        refine q_last hC hW 13 (Mg13 cc ad (sJ (LX12_happens_23_S S x y mh (3 * (mh - 1))) 13 (3 * (mh - 1)) (S.2 11 48))) ((3 * (mh - 1)) + 1) rfl (by omega) (by decide) (Ms13 cc ad (sJ (LX12_happens_23_S S x y mh (3 * (mh - 1))) 13 (3 * (mh - 1)) (S.2 11 48)) ((3 * (mh - 1)) + 1) (x.toInt64)) dX12_happens_82 (fun H locs hW => ?_)
        refine lv_aload_n hx hb dX12_happens_83 rfl (lv_at hl 0 rfl) ?_
        refine q_get hC hW kX12_47 0 (Mg0 cc ad (sJ (sJ (LX12_happens_23_S S x y mh (3 * (mh - 1))) 13 (3 * (mh - 1)) (S.2 11 48)) 13 ((3 * (mh - 1)) + 1) (x.toInt64))) (v := .ref (ad 13)) rfl dX12_happens_84 ?_
        refine lv_iconst (v := 3) hx hb dX12_happens_87 (by decide) ?_
        refine lv_iload hx hb dX12_happens_88 (lv_at hl 3 rfl) ?_
        refine lv_imul hx hb dX12_happens_90 ?_
        refine q_ri (v := nI (3 * (mh - 1))) (nq_mul (a := 3) (b := (mh - 1)) rfl rfl) ?_
        refine lv_iconst (v := 2) hx hb dX12_happens_91 (by decide) ?_
        refine lv_iadd hx hb dX12_happens_92 ?_
        refine q_ri (v := nI ((3 * (mh - 1)) + 2)) (nq_add (a := (3 * (mh - 1))) (b := 2) rfl rfl) ?_
        refine lv_lload_n hx hb dX12_happens_93 rfl (lv_at hl 2 rfl) ?_
        refine q_last hC hW 13 (Mg13 cc ad (sJ (sJ (LX12_happens_23_S S x y mh (3 * (mh - 1))) 13 (3 * (mh - 1)) (S.2 11 48)) 13 ((3 * (mh - 1)) + 1) (x.toInt64))) ((3 * (mh - 1)) + 2) rfl (by omega) (by decide) (Ms13 cc ad (sJ (sJ (LX12_happens_23_S S x y mh (3 * (mh - 1))) 13 (3 * (mh - 1)) (S.2 11 48)) 13 ((3 * (mh - 1)) + 1) (x.toInt64)) ((3 * (mh - 1)) + 2) y) dX12_happens_94 (fun H locs hW => ?_)
        refine lv_aload_n hx hb dX12_happens_95 rfl (lv_at hl 0 rfl) ?_
        refine q_get hC hW kX12_41 0 (Mg0 cc ad (sJ (sJ (sJ (LX12_happens_23_S S x y mh (3 * (mh - 1))) 13 (3 * (mh - 1)) (S.2 11 48)) 13 ((3 * (mh - 1)) + 1) (x.toInt64)) 13 ((3 * (mh - 1)) + 2) y)) (v := .ref (ad 11)) rfl dX12_happens_96 ?_
        refine lv_bipush (v := 63) hx hb dX12_happens_99 (by decide) ?_
        refine lv_iload hx hb dX12_happens_101 (lv_at hl 3 rfl) ?_
        refine lv_iconst (v := 1) hx hb dX12_happens_103 (by decide) ?_
        refine lv_iadd hx hb dX12_happens_104 ?_
        refine q_ri (v := nI ((mh - 1) + 1)) (nq_add (a := (mh - 1)) (b := 1) rfl rfl) ?_
        refine lv_i2l (v := lN ((mh - 1) + 1)) hx hb dX12_happens_105 (nI_l (by omega)) ?_
        refine q_last hC hW 11 (Mg11 cc ad (sJ (sJ (sJ (LX12_happens_23_S S x y mh (3 * (mh - 1))) 13 (3 * (mh - 1)) (S.2 11 48)) 13 ((3 * (mh - 1)) + 1) (x.toInt64)) 13 ((3 * (mh - 1)) + 2) y)) 63 rfl (by omega) (by decide) (Ms11 cc ad (sJ (sJ (sJ (LX12_happens_23_S S x y mh (3 * (mh - 1))) 13 (3 * (mh - 1)) (S.2 11 48)) 13 ((3 * (mh - 1)) + 1) (x.toInt64)) 13 ((3 * (mh - 1)) + 2) y) 63 (lN ((mh - 1) + 1))) dX12_happens_106 (fun H locs hW => ?_)
        exact hend _ _ _ _ _ (by simp only [sX12_happens_S, if_pos c_14]) hW dX12_happens_107
      | succ rn ih =>
        intro k hk H locs ls hW hl
        have hkN : k < (3 * (mh - 1)) := by omega
        refine lv_iload hx hb dX12_happens_23 (lv_at hl 4 rfl) ?_
        refine lv_iconst (v := 3) hx hb dX12_happens_25 (by decide) ?_
        refine lv_iload hx hb dX12_happens_26 (lv_at hl 3 rfl) ?_
        refine lv_imul hx hb dX12_happens_28 ?_
        refine q_ri (v := nI (3 * (mh - 1))) (nq_mul (a := 3) (b := (mh - 1)) rfl rfl) ?_
        refine q_icmp_ge_n (tgt := 54) hx hb (a := k) (b := (3 * (mh - 1))) rfl rfl (by omega) (by omega) dX12_happens_29 (by decide) (fun c_29 => by exfalso; omega) (fun c_29 => ?_)
        refine lv_aload_n hx hb dX12_happens_32 rfl (lv_at hl 0 rfl) ?_
        refine q_get hC hW kX12_47 0 (Mg0 cc ad (LX12_happens_23_S S x y mh k)) (v := .ref (ad 13)) rfl dX12_happens_33 ?_
        refine lv_iload hx hb dX12_happens_36 (lv_at hl 4 rfl) ?_
        refine lv_aload_n hx hb dX12_happens_38 rfl (lv_at hl 0 rfl) ?_
        refine q_get hC hW kX12_47 0 (Mg0 cc ad (LX12_happens_23_S S x y mh k)) (v := .ref (ad 13)) rfl dX12_happens_39 ?_
        refine lv_iload hx hb dX12_happens_42 (lv_at hl 4 rfl) ?_
        refine lv_iconst (v := 3) hx hb dX12_happens_44 (by decide) ?_
        refine lv_iadd hx hb dX12_happens_45 ?_
        refine q_ri (v := nI (k + 3)) (nq_add (a := k) (b := 3) rfl rfl) ?_
        refine q_lald hC hW 13 (Mg13 cc ad (LX12_happens_23_S S x y mh k)) (v := ((LX12_happens_23_S S x y mh k).2 13 (k + 3))) (k + 3) rfl (by omega) (by decide) rfl dX12_happens_46 ?_
        refine q_last hC hW 13 (Mg13 cc ad (LX12_happens_23_S S x y mh k)) k rfl (by omega) (by decide) (Ms13 cc ad (LX12_happens_23_S S x y mh k) k ((LX12_happens_23_S S x y mh k).2 13 (k + 3))) dX12_happens_47 (fun H locs hW => ?_)
        refine lv_iinc (v := (nI (k + 1))) (lv' := [(5, .int (nI (k + 1))), (0, .ref (ad 0)), (1, .int x), (2, .long y), (4, .int (nI (mh - 1)))]) hx hb dX12_happens_48 hl (k := 4) rfl (nq_inc k 1) (by decide) rfl (fun ls hl => ?_)
        refine lv_goto (tgt := 23) hx hb dX12_happens_51 (by decide) ?_
        exact ih (k + 1) (by omega) _ _ _ (by simp only [LX12_happens_23_S, if_pos c_14]; exact hW) (lv_sub hl [1, 2, 3, 4, 0] rfl)
    exact loop1 (3 * (mh - 1)) 0 (by omega) _ _ _ hW (lv_sub hl [2, 3, 4, 1, 0] rfl)
theorem t1_X12_happens (S : St) (x : Int32) (y : Int64) (mh a b : Nat) : (sX12_happens_S S x y mh).1 a b = S.1 a b := by
  unfold sX12_happens_S
  split
  · exact L1_happens _ _ _ _ _ _ _
  · rfl
theorem t2_X12_happens (S : St) (x : Int32) (y : Int64) (mh a b : Nat) (h : ¬ a = 13 ∧ ¬ (a = 11 ∧ b = 63)) : (sX12_happens_S S x y mh).2 a b = S.2 a b := by
  unfold sX12_happens_S
  split <;> simp only [rJ_sJ] <;> rw [if_neg (by omega), if_neg (by omega), if_neg (by omega), if_neg (by omega)]
  exact L2_happens _ _ _ _ _ _ _ h.1
theorem h_X12_happens (S : St) (x : Int32) (y : Int64) (mh : Nat) : (sX12_happens_S S x y mh).2 11 63 = lN (if mh = 30 then 30 else mh + 1) := by
  unfold sX12_happens_S
  split
  · rename_i h
    rw [rJ_at]
    subst h
    rfl
  · rw [rJ_at]
theorem inv_X12_happens (S : St) (x : Int32) (y : Int64) (mh : Nat) (hh : S.2 11 63 = lN mh) (hh3 : mh ≤ 30) (hI : InvM S) : InvM (sX12_happens_S S x y mh) := by
  obtain ⟨⟨h1, b1⟩, ⟨h2, b2⟩, h3, ⟨h4, b4⟩, b5⟩ := id hI
  refine InvM.of (n := cN S) (q := mQ S) (mc := mM S) ((t1_X12_happens S x y mh 0 0).trans h1) ((t2_X12_happens S x y mh 11 52 (by omega)).trans h2) ((t2_X12_happens S x y mh 11 62 (by omega)).trans h3) (h_X12_happens S x y mh) ⟨b1, b2, ?_, b5⟩
  split <;> omega
def sX12_breaks_S (S : St) (x : Int32) : St := (sX12_happens_S (sJ (sJ (sJ S 11 49 1) 11 59 1) 11 60 (x.toInt64)) 1 (x.toInt64) (mH S))
set_option maxHeartbeats 4000000 in
set_option maxRecDepth 100000 in
theorem c_X12_breaks (l : Launch) (D : va_G) (cc : Nat → ClassId) (ad : Nat → Nat) (S : St) (x : Int32) (hI : InvM S) : CtV l D cc yX12_breaks cX12_breaks 2 1 [.ref (ad 0), .int x] (MW cc ad S) (MW cc ad (sX12_breaks_S S x)) := by
  refine CtV.of (plainFor_of_name (by decide +kernel)) (Nat.le_of_ble_eq_true rfl) ?_
  intro p e s m args below meth c A Q hC hW hend ls hl
  obtain ⟨⟨hx, hb, hml, hown, hts⟩, hNW⟩ := id hC
  have hl : lv_has ls 2 [(0, .ref (ad 0)), (1, .int x)] := hl
  obtain ⟨⟨-, hn1_hI, hn2_hI⟩, ⟨-, hq_hI⟩, -, ⟨-, hh_hI⟩, hs_hI⟩ := id hI
  refine lv_aload_n hx hb dX12_breaks_0 rfl (lv_at hl 0 rfl) ?_
  refine q_get hC hW kX12_41 0 (Mg0 cc ad S) (v := .ref (ad 11)) rfl dX12_breaks_1 ?_
  refine lv_bipush (v := 49) hx hb dX12_breaks_4 (by decide) ?_
  refine lv_lconst (v := 1) hx hb dX12_breaks_6 rfl ?_
  refine q_last hC hW 11 (Mg11 cc ad S) 49 rfl (by omega) (by decide) (Ms11 cc ad S 49 1) dX12_breaks_7 (fun H locs hW => ?_)
  refine lv_aload_n hx hb dX12_breaks_8 rfl (lv_at hl 0 rfl) ?_
  refine q_get hC hW kX12_41 0 (Mg0 cc ad (sJ S 11 49 1)) (v := .ref (ad 11)) rfl dX12_breaks_9 ?_
  refine lv_bipush (v := 59) hx hb dX12_breaks_12 (by decide) ?_
  refine lv_lconst (v := 1) hx hb dX12_breaks_14 rfl ?_
  refine q_last hC hW 11 (Mg11 cc ad (sJ S 11 49 1)) 59 rfl (by omega) (by decide) (Ms11 cc ad (sJ S 11 49 1) 59 1) dX12_breaks_15 (fun H locs hW => ?_)
  refine lv_aload_n hx hb dX12_breaks_16 rfl (lv_at hl 0 rfl) ?_
  refine q_get hC hW kX12_41 0 (Mg0 cc ad (sJ (sJ S 11 49 1) 11 59 1)) (v := .ref (ad 11)) rfl dX12_breaks_17 ?_
  refine lv_bipush (v := 60) hx hb dX12_breaks_20 (by decide) ?_
  refine lv_iload_n hx hb dX12_breaks_22 rfl (lv_at hl 1 rfl) ?_
  refine lv_i2l hx hb dX12_breaks_23 rfl ?_
  refine q_last hC hW 11 (Mg11 cc ad (sJ (sJ S 11 49 1) 11 59 1)) 60 rfl (by omega) (by decide) (Ms11 cc ad (sJ (sJ S 11 49 1) 11 59 1) 60 (x.toInt64)) dX12_breaks_24 (fun H locs hW => ?_)
  refine lv_aload_n hx hb dX12_breaks_25 rfl (lv_at hl 0 rfl) ?_
  refine lv_iconst (v := 1) hx hb dX12_breaks_26 (by decide) ?_
  refine lv_iload_n hx hb dX12_breaks_27 rfl (lv_at hl 1 rfl) ?_
  refine lv_i2l hx hb dX12_breaks_28 rfl ?_
  refine q_VV hC hW (c_X12_happens l D cc ad (sJ (sJ (sJ S 11 49 1) 11 59 1) 11 60 (x.toInt64)) 1 (x.toInt64) (mH S) hI.2.2.2.1.1 (by omega)) mX12_172 0 (Mg0 cc ad (sJ (sJ (sJ S 11 49 1) 11 59 1) 11 60 (x.toInt64))) rfl (by decide) rfl hl.1 rfl (Nat.le_of_ble_eq_true rfl) (by decide) dX12_breaks_29 (fun H locs hW => ?_)
  have hI_1 : InvM (sX12_happens_S (sJ (sJ (sJ S 11 49 1) 11 59 1) 11 60 (x.toInt64)) 1 (x.toInt64) (mH S)) := inv_X12_happens (sJ (sJ (sJ S 11 49 1) 11 59 1) 11 60 (x.toInt64)) 1 (x.toInt64) (mH S) hI.2.2.2.1.1 (by omega) hI
  obtain ⟨⟨-, hn1_hI_1, hn2_hI_1⟩, ⟨-, hq_hI_1⟩, -, ⟨-, hh_hI_1⟩, hs_hI_1⟩ := id hI_1
  exact hend _ _ _ _ _ (by unfold sX12_breaks_S; rfl) hW dX12_breaks_32
theorem inv_X12_breaks (S : St) (x : Int32) (hI : InvM S) : InvM (sX12_breaks_S S x) := inv_X12_happens (sJ (sJ (sJ S 11 49 1) 11 59 1) 11 60 x.toInt64) _ _ (mH S) hI.2.2.2.1.1 hI.2.2.2.1.2 hI
def LX12_removeMarks_64_S (S : St)  (E : Nat) : Nat → St
  | 0 => (sJ S 11 62 (lN ((mM S) - E)))
  | k2 + 1 => (sJ (LX12_removeMarks_64_S S E k2) 15 k2 ((LX12_removeMarks_64_S S E k2).2 15 (k2 + E)))
theorem L1_removeMarks (S : St) (E k a b : Nat) : (LX12_removeMarks_64_S S E k).1 a b = S.1 a b := by
  induction k with
  | zero => rfl
  | succ k ih => exact ih
theorem L2_removeMarks (S : St) (E k a b : Nat) (ha : ¬ a = 15) : (LX12_removeMarks_64_S S E k).2 a b = (sJ S 11 62 (lN (mM S - E))).2 a b := by
  induction k with
  | zero => rfl
  | succ k ih =>
    unfold LX12_removeMarks_64_S
    rw [rJ_sJ, if_neg (by omega)]
    exact ih
def sX12_removeMarks_S (S : St)  : St := LX12_removeMarks_64_S S (xGone (fun i => S.2 11 61 - S.2 15 i) (sX12_materialTo S (cN S)) (mM S) 0) (mM S - xGone (fun i => S.2 11 61 - S.2 15 i) (sX12_materialTo S (cN S)) (mM S) 0)
set_option maxHeartbeats 4000000 in
set_option maxRecDepth 100000 in
theorem c_X12_removeMarks (l : Launch) (D : va_G) (cc : Nat → ClassId) (ad : Nat → Nat) (S : St) (hI : InvM S) : CtV l D cc yX12_removeMarks cX12_removeMarks 5 1 [.ref (ad 0)] (MW cc ad S) (MW cc ad (sX12_removeMarks_S S )) := by
  refine CtV.of (plainFor_of_name (by decide +kernel)) (Nat.le_of_ble_eq_true rfl) ?_
  intro p e s m args below meth c A Q hC hW hend ls hl
  obtain ⟨⟨hx, hb, hml, hown, hts⟩, hNW⟩ := id hC
  have hl : lv_has ls 5 [(0, .ref (ad 0))] := hl
  obtain ⟨⟨-, hn1_hI, hn2_hI⟩, ⟨-, hq_hI⟩, -, ⟨-, hh_hI⟩, hs_hI⟩ := id hI
  refine lv_aload_n hx hb dX12_removeMarks_0 rfl (lv_at hl 0 rfl) ?_
  refine lv_aload_n hx hb dX12_removeMarks_1 rfl (lv_at hl 0 rfl) ?_
  refine q_get hC hW kX12_69 0 (Mg0 cc ad S) (v := .int (nI (cN S))) (congrArg (fun z => some (Value.int z)) hI.1.1) dX12_removeMarks_2 ?_
  refine q_VL hC hW (c_X12_materialTo l D cc ad S (cN S) (by omega)) mX12_165 0 (Mg0 cc ad S) rfl (by decide) rfl hl.1 rfl (Nat.le_of_ble_eq_true rfl) (by decide) dX12_removeMarks_5 (fun H locs hW => ?_)
  refine lv_lstore_n (lv' := [(1, .long (sX12_materialTo S (cN S))), (0, .ref (ad 0))]) hx hb dX12_removeMarks_8 rfl hl (by decide) rfl (fun ls hl => ?_)
  refine lv_iconst (v := 0) hx hb dX12_removeMarks_9 (by decide) ?_
  refine lv_istore_n (lv' := [(3, .int 0), (1, .long (sX12_materialTo S (cN S))), (0, .ref (ad 0))]) hx hb dX12_removeMarks_10 rfl hl (by decide) rfl (fun ls hl => ?_)
  have loop1 : ∀ (rn k : Nat), k + rn = (mM S) → xGone (fun i => S.2 11 61 - S.2 15 i) (sX12_materialTo S (cN S)) rn k = xGone (fun i => S.2 11 61 - S.2 15 i) (sX12_materialTo S (cN S)) (mM S) 0 → ∀ (H : Heap) (locs : List Loc) (ls : Array Slot), Wd D cc (MW cc ad S) A s.heap H locs s → lv_has ls 5 [(0, .ref (ad 0)), (1, .long (sX12_materialTo S (cN S))), (3, .int (nI k))] → W p l e (rmD 1) s m args below meth c H locs 0 0 Q (F0 m 11 ls []) := by
    intro rn
    induction rn with
    | zero =>
      intro k hk hinv H locs ls hW hl
      obtain rfl : (mM S) = k := by omega
      have hE : mM S = xGone (fun i => S.2 11 61 - S.2 15 i) (sX12_materialTo S (cN S)) (mM S) 0 := hinv
      have hEb := xGone_le (fun i => S.2 11 61 - S.2 15 i) (sX12_materialTo S (cN S)) (mM S) 0
      generalize hEe : xGone (fun i => S.2 11 61 - S.2 15 i) (sX12_materialTo S (cN S)) (mM S) 0 = E at hE hEb
      replace hl : lv_has ls 5 [(0, .ref (ad 0)), (1, .long (sX12_materialTo S (cN S))), (3, .int (nI E))] := by rw [← hE]; exact hl
      refine lv_iload_n hx hb dX12_removeMarks_11 rfl (lv_at hl 2 rfl) ?_
      refine lv_i2l (v := lN E) hx hb dX12_removeMarks_12 (nI_l (by omega)) ?_
      refine lv_aload_n hx hb dX12_removeMarks_13 rfl (lv_at hl 0 rfl) ?_
      refine q_get hC hW kX12_41 0 (Mg0 cc ad S) (v := .ref (ad 11)) rfl dX12_removeMarks_14 ?_
      refine lv_bipush (v := 62) hx hb dX12_removeMarks_17 (by decide) ?_
      refine q_lald hC hW 11 (Mg11 cc ad S) (v := (lN (mM S))) 62 rfl (by omega) (by decide) hI.2.2.1 dX12_removeMarks_19 ?_
      refine q_jge_n (tgt := 49) hC (a := E) (b2 := (mM S)) rfl rfl (by omega) (by omega) dX12_removeMarks_20 dX12_removeMarks_21 (by decide) (fun c_20 => ?_) (fun c_20 => by exfalso; omega)
      refine lv_aload_n hx hb dX12_removeMarks_49 rfl (lv_at hl 0 rfl) ?_
      refine q_get hC hW kX12_41 0 (Mg0 cc ad S) (v := .ref (ad 11)) rfl dX12_removeMarks_50 ?_
      refine lv_bipush (v := 62) hx hb dX12_removeMarks_53 (by decide) ?_
      refine lv_dup2_11 hx hb dX12_removeMarks_55 rfl rfl ?_
      refine q_lald hC hW 11 (Mg11 cc ad S) (v := (lN (mM S))) 62 rfl (by omega) (by decide) hI.2.2.1 dX12_removeMarks_56 ?_
      refine lv_iload_n hx hb dX12_removeMarks_57 rfl (lv_at hl 2 rfl) ?_
      refine lv_i2l (v := lN E) hx hb dX12_removeMarks_58 (nI_l (by omega)) ?_
      refine lv_lsub hx hb dX12_removeMarks_59 ?_
      refine q_rl (v := lN ((mM S) - E)) (nq_subL (a := (mM S)) (b := E) rfl rfl (by omega)) ?_
      refine q_last hC hW 11 (Mg11 cc ad S) 62 rfl (by omega) (by decide) (Ms11 cc ad S 62 (lN ((mM S) - E))) dX12_removeMarks_60 (fun H locs hW => ?_)
      refine lv_iconst (v := 0) hx hb dX12_removeMarks_61 (by decide) ?_
      refine lv_istore (lv' := [(4, .int 0), (0, .ref (ad 0)), (1, .long (sX12_materialTo S (cN S))), (3, .int (nI E))]) hx hb dX12_removeMarks_62 hl (by decide) rfl (fun ls hl => ?_)
      have loop2 : ∀ (rn k2 : Nat), k2 + rn = (mM S - E) → ∀ (H : Heap) (locs : List Loc) (ls : Array Slot), Wd D cc (MW cc ad (LX12_removeMarks_64_S S E k2)) A s.heap H locs s → lv_has ls 5 [(0, .ref (ad 0)), (1, .long (sX12_materialTo S (cN S))), (3, .int (nI E)), (4, .int (nI k2))] → W p l e (rmD 1) s m args below meth c H locs 0 0 Q (F0 m 64 ls []) := by
        intro rn
        induction rn with
        | zero =>
          intro k2 hk H locs ls hW hl
          obtain rfl : (mM S - E) = k2 := by omega
          refine lv_iload hx hb dX12_removeMarks_64 (lv_at hl 3 rfl) ?_
          refine lv_i2l (v := lN (mM S - E)) hx hb dX12_removeMarks_66 (nI_l (by omega)) ?_
          refine lv_aload_n hx hb dX12_removeMarks_67 rfl (lv_at hl 0 rfl) ?_
          refine q_get hC hW kX12_41 0 (Mg0 cc ad (LX12_removeMarks_64_S S E (mM S - E))) (v := .ref (ad 11)) rfl dX12_removeMarks_68 ?_
          refine lv_bipush (v := 62) hx hb dX12_removeMarks_71 (by decide) ?_
          refine q_lald hC hW 11 (Mg11 cc ad (LX12_removeMarks_64_S S E (mM S - E))) (v := (lN ((mM S) - E))) 62 rfl (by omega) (by decide) ((L2_removeMarks  S E (mM S - E) 11 62 (by decide))) dX12_removeMarks_73 ?_
          refine q_jge_n (tgt := 100) hC (a := (mM S - E)) (b2 := ((mM S) - E)) rfl rfl (by omega) (by omega) dX12_removeMarks_74 dX12_removeMarks_75 (by decide) (fun c_74 => ?_) (fun c_74 => by exfalso; omega)
          exact hend _ _ _ _ _ (by unfold sX12_removeMarks_S; rw [hEe]) hW dX12_removeMarks_100
        | succ rn ih =>
          intro k2 hk H locs ls hW hl
          have hkN : k2 < (mM S - E) := by omega
          refine lv_iload hx hb dX12_removeMarks_64 (lv_at hl 3 rfl) ?_
          refine lv_i2l (v := lN k2) hx hb dX12_removeMarks_66 (nI_l (by omega)) ?_
          refine lv_aload_n hx hb dX12_removeMarks_67 rfl (lv_at hl 0 rfl) ?_
          refine q_get hC hW kX12_41 0 (Mg0 cc ad (LX12_removeMarks_64_S S E k2)) (v := .ref (ad 11)) rfl dX12_removeMarks_68 ?_
          refine lv_bipush (v := 62) hx hb dX12_removeMarks_71 (by decide) ?_
          refine q_lald hC hW 11 (Mg11 cc ad (LX12_removeMarks_64_S S E k2)) (v := (lN ((mM S) - E))) 62 rfl (by omega) (by decide) ((L2_removeMarks  S E k2 11 62 (by decide))) dX12_removeMarks_73 ?_
          refine q_jge_n (tgt := 100) hC (a := k2) (b2 := ((mM S) - E)) rfl rfl (by omega) (by omega) dX12_removeMarks_74 dX12_removeMarks_75 (by decide) (fun c_74 => by exfalso; omega) (fun c_74 => ?_)
          refine lv_aload_n hx hb dX12_removeMarks_78 rfl (lv_at hl 0 rfl) ?_
          refine q_get hC hW kX12_53 0 (Mg0 cc ad (LX12_removeMarks_64_S S E k2)) (v := .ref (ad 15)) rfl dX12_removeMarks_79 ?_
          refine lv_iload hx hb dX12_removeMarks_82 (lv_at hl 3 rfl) ?_
          refine lv_aload_n hx hb dX12_removeMarks_84 rfl (lv_at hl 0 rfl) ?_
          refine q_get hC hW kX12_53 0 (Mg0 cc ad (LX12_removeMarks_64_S S E k2)) (v := .ref (ad 15)) rfl dX12_removeMarks_85 ?_
          refine lv_iload hx hb dX12_removeMarks_88 (lv_at hl 3 rfl) ?_
          refine lv_iload_n hx hb dX12_removeMarks_90 rfl (lv_at hl 2 rfl) ?_
          refine lv_iadd hx hb dX12_removeMarks_91 ?_
          refine q_ri (v := nI (k2 + E)) (nq_add (a := k2) (b := E) rfl rfl) ?_
          refine q_lald hC hW 15 (Mg15 cc ad (LX12_removeMarks_64_S S E k2)) (v := ((LX12_removeMarks_64_S S E k2).2 15 (k2 + E))) (k2 + E) rfl (by omega) (by decide) rfl dX12_removeMarks_92 ?_
          refine q_last hC hW 15 (Mg15 cc ad (LX12_removeMarks_64_S S E k2)) k2 rfl (by omega) (by decide) (Ms15 cc ad (LX12_removeMarks_64_S S E k2) k2 ((LX12_removeMarks_64_S S E k2).2 15 (k2 + E))) dX12_removeMarks_93 (fun H locs hW => ?_)
          refine lv_iinc (v := (nI (k2 + 1))) (lv' := [(4, .int (nI (k2 + 1))), (0, .ref (ad 0)), (1, .long (sX12_materialTo S (cN S))), (3, .int (nI E))]) hx hb dX12_removeMarks_94 hl (k := 3) rfl (nq_inc k2 1) (by decide) rfl (fun ls hl => ?_)
          refine lv_goto (tgt := 64) hx hb dX12_removeMarks_97 (by decide) ?_
          exact ih (k2 + 1) (by omega) _ _ _ (by simp only [LX12_removeMarks_64_S]; exact hW) (lv_sub hl [1, 2, 3, 0] rfl)
      exact loop2 (mM S - E) 0 (by omega) _ _ _ hW (lv_sub hl [1, 2, 3, 0] rfl)
    | succ rn ih =>
      intro k hk hinv H locs ls hW hl
      have hkN : k < (mM S) := by omega
      refine lv_iload_n hx hb dX12_removeMarks_11 rfl (lv_at hl 2 rfl) ?_
      refine lv_i2l (v := lN k) hx hb dX12_removeMarks_12 (nI_l (by omega)) ?_
      refine lv_aload_n hx hb dX12_removeMarks_13 rfl (lv_at hl 0 rfl) ?_
      refine q_get hC hW kX12_41 0 (Mg0 cc ad S) (v := .ref (ad 11)) rfl dX12_removeMarks_14 ?_
      refine lv_bipush (v := 62) hx hb dX12_removeMarks_17 (by decide) ?_
      refine q_lald hC hW 11 (Mg11 cc ad S) (v := (lN (mM S))) 62 rfl (by omega) (by decide) hI.2.2.1 dX12_removeMarks_19 ?_
      refine q_jge_n (tgt := 49) hC (a := k) (b2 := (mM S)) rfl rfl (by omega) (by omega) dX12_removeMarks_20 dX12_removeMarks_21 (by decide) (fun c_20 => by exfalso; omega) (fun c_20 => ?_)
      refine lv_aload_n hx hb dX12_removeMarks_24 rfl (lv_at hl 0 rfl) ?_
      refine q_get hC hW kX12_41 0 (Mg0 cc ad S) (v := .ref (ad 11)) rfl dX12_removeMarks_25 ?_
      refine lv_bipush (v := 61) hx hb dX12_removeMarks_28 (by decide) ?_
      refine q_lald hC hW 11 (Mg11 cc ad S) (v := (S.2 11 61)) 61 rfl (by omega) (by decide) rfl dX12_removeMarks_30 ?_
      refine lv_aload_n hx hb dX12_removeMarks_31 rfl (lv_at hl 0 rfl) ?_
      refine q_get hC hW kX12_53 0 (Mg0 cc ad S) (v := .ref (ad 15)) rfl dX12_removeMarks_32 ?_
      refine lv_iload_n hx hb dX12_removeMarks_35 rfl (lv_at hl 2 rfl) ?_
      refine q_lald hC hW 15 (Mg15 cc ad S) (v := (S.2 15 k)) k rfl (by omega) (by decide) rfl dX12_removeMarks_36 ?_
      refine lv_lsub hx hb dX12_removeMarks_37 ?_
      refine lv_lload_n hx hb dX12_removeMarks_38 rfl (lv_at hl 1 rfl) ?_
      refine q_jlt (tgt := 49) hC dX12_removeMarks_39 dX12_removeMarks_40 (by decide) (fun c_39 => ?_) (fun c_39 => ?_)
      · skip
        have hE : k = xGone (fun i => S.2 11 61 - S.2 15 i) (sX12_materialTo S (cN S)) (mM S) 0 := by rw [← hinv]; simp only [xGone, if_pos c_39]
        have hEb := xGone_le (fun i => S.2 11 61 - S.2 15 i) (sX12_materialTo S (cN S)) (mM S) 0
        generalize hEe : xGone (fun i => S.2 11 61 - S.2 15 i) (sX12_materialTo S (cN S)) (mM S) 0 = E at hE hEb
        replace hl : lv_has ls 5 [(0, .ref (ad 0)), (1, .long (sX12_materialTo S (cN S))), (3, .int (nI E))] := by rw [← hE]; exact hl
        refine lv_aload_n hx hb dX12_removeMarks_49 rfl (lv_at hl 0 rfl) ?_
        refine q_get hC hW kX12_41 0 (Mg0 cc ad S) (v := .ref (ad 11)) rfl dX12_removeMarks_50 ?_
        refine lv_bipush (v := 62) hx hb dX12_removeMarks_53 (by decide) ?_
        refine lv_dup2_11 hx hb dX12_removeMarks_55 rfl rfl ?_
        refine q_lald hC hW 11 (Mg11 cc ad S) (v := (lN (mM S))) 62 rfl (by omega) (by decide) hI.2.2.1 dX12_removeMarks_56 ?_
        refine lv_iload_n hx hb dX12_removeMarks_57 rfl (lv_at hl 2 rfl) ?_
        refine lv_i2l (v := lN E) hx hb dX12_removeMarks_58 (nI_l (by omega)) ?_
        refine lv_lsub hx hb dX12_removeMarks_59 ?_
        refine q_rl (v := lN ((mM S) - E)) (nq_subL (a := (mM S)) (b := E) rfl rfl (by omega)) ?_
        refine q_last hC hW 11 (Mg11 cc ad S) 62 rfl (by omega) (by decide) (Ms11 cc ad S 62 (lN ((mM S) - E))) dX12_removeMarks_60 (fun H locs hW => ?_)
        refine lv_iconst (v := 0) hx hb dX12_removeMarks_61 (by decide) ?_
        refine lv_istore (lv' := [(4, .int 0), (0, .ref (ad 0)), (1, .long (sX12_materialTo S (cN S))), (3, .int (nI E))]) hx hb dX12_removeMarks_62 hl (by decide) rfl (fun ls hl => ?_)
        have loop3 : ∀ (rn k2 : Nat), k2 + rn = (mM S - E) → ∀ (H : Heap) (locs : List Loc) (ls : Array Slot), Wd D cc (MW cc ad (LX12_removeMarks_64_S S E k2)) A s.heap H locs s → lv_has ls 5 [(0, .ref (ad 0)), (1, .long (sX12_materialTo S (cN S))), (3, .int (nI E)), (4, .int (nI k2))] → W p l e (rmD 1) s m args below meth c H locs 0 0 Q (F0 m 64 ls []) := by
          intro rn
          induction rn with
          | zero =>
            intro k2 hk H locs ls hW hl
            obtain rfl : (mM S - E) = k2 := by omega
            refine lv_iload hx hb dX12_removeMarks_64 (lv_at hl 3 rfl) ?_
            refine lv_i2l (v := lN (mM S - E)) hx hb dX12_removeMarks_66 (nI_l (by omega)) ?_
            refine lv_aload_n hx hb dX12_removeMarks_67 rfl (lv_at hl 0 rfl) ?_
            refine q_get hC hW kX12_41 0 (Mg0 cc ad (LX12_removeMarks_64_S S E (mM S - E))) (v := .ref (ad 11)) rfl dX12_removeMarks_68 ?_
            refine lv_bipush (v := 62) hx hb dX12_removeMarks_71 (by decide) ?_
            refine q_lald hC hW 11 (Mg11 cc ad (LX12_removeMarks_64_S S E (mM S - E))) (v := (lN ((mM S) - E))) 62 rfl (by omega) (by decide) ((L2_removeMarks  S E (mM S - E) 11 62 (by decide))) dX12_removeMarks_73 ?_
            refine q_jge_n (tgt := 100) hC (a := (mM S - E)) (b2 := ((mM S) - E)) rfl rfl (by omega) (by omega) dX12_removeMarks_74 dX12_removeMarks_75 (by decide) (fun c_74 => ?_) (fun c_74 => by exfalso; omega)
            exact hend _ _ _ _ _ (by unfold sX12_removeMarks_S; rw [hEe]) hW dX12_removeMarks_100
          | succ rn ih =>
            intro k2 hk H locs ls hW hl
            have hkN : k2 < (mM S - E) := by omega
            refine lv_iload hx hb dX12_removeMarks_64 (lv_at hl 3 rfl) ?_
            refine lv_i2l (v := lN k2) hx hb dX12_removeMarks_66 (nI_l (by omega)) ?_
            refine lv_aload_n hx hb dX12_removeMarks_67 rfl (lv_at hl 0 rfl) ?_
            refine q_get hC hW kX12_41 0 (Mg0 cc ad (LX12_removeMarks_64_S S E k2)) (v := .ref (ad 11)) rfl dX12_removeMarks_68 ?_
            refine lv_bipush (v := 62) hx hb dX12_removeMarks_71 (by decide) ?_
            refine q_lald hC hW 11 (Mg11 cc ad (LX12_removeMarks_64_S S E k2)) (v := (lN ((mM S) - E))) 62 rfl (by omega) (by decide) ((L2_removeMarks  S E k2 11 62 (by decide))) dX12_removeMarks_73 ?_
            refine q_jge_n (tgt := 100) hC (a := k2) (b2 := ((mM S) - E)) rfl rfl (by omega) (by omega) dX12_removeMarks_74 dX12_removeMarks_75 (by decide) (fun c_74 => by exfalso; omega) (fun c_74 => ?_)
            refine lv_aload_n hx hb dX12_removeMarks_78 rfl (lv_at hl 0 rfl) ?_
            refine q_get hC hW kX12_53 0 (Mg0 cc ad (LX12_removeMarks_64_S S E k2)) (v := .ref (ad 15)) rfl dX12_removeMarks_79 ?_
            refine lv_iload hx hb dX12_removeMarks_82 (lv_at hl 3 rfl) ?_
            refine lv_aload_n hx hb dX12_removeMarks_84 rfl (lv_at hl 0 rfl) ?_
            refine q_get hC hW kX12_53 0 (Mg0 cc ad (LX12_removeMarks_64_S S E k2)) (v := .ref (ad 15)) rfl dX12_removeMarks_85 ?_
            refine lv_iload hx hb dX12_removeMarks_88 (lv_at hl 3 rfl) ?_
            refine lv_iload_n hx hb dX12_removeMarks_90 rfl (lv_at hl 2 rfl) ?_
            refine lv_iadd hx hb dX12_removeMarks_91 ?_
            refine q_ri (v := nI (k2 + E)) (nq_add (a := k2) (b := E) rfl rfl) ?_
            refine q_lald hC hW 15 (Mg15 cc ad (LX12_removeMarks_64_S S E k2)) (v := ((LX12_removeMarks_64_S S E k2).2 15 (k2 + E))) (k2 + E) rfl (by omega) (by decide) rfl dX12_removeMarks_92 ?_
            refine q_last hC hW 15 (Mg15 cc ad (LX12_removeMarks_64_S S E k2)) k2 rfl (by omega) (by decide) (Ms15 cc ad (LX12_removeMarks_64_S S E k2) k2 ((LX12_removeMarks_64_S S E k2).2 15 (k2 + E))) dX12_removeMarks_93 (fun H locs hW => ?_)
            refine lv_iinc (v := (nI (k2 + 1))) (lv' := [(4, .int (nI (k2 + 1))), (0, .ref (ad 0)), (1, .long (sX12_materialTo S (cN S))), (3, .int (nI E))]) hx hb dX12_removeMarks_94 hl (k := 3) rfl (nq_inc k2 1) (by decide) rfl (fun ls hl => ?_)
            refine lv_goto (tgt := 64) hx hb dX12_removeMarks_97 (by decide) ?_
            exact ih (k2 + 1) (by omega) _ _ _ (by simp only [LX12_removeMarks_64_S, if_pos c_39]; exact hW) (lv_sub hl [1, 2, 3, 0] rfl)
        exact loop3 (mM S - E) 0 (by omega) _ _ _ hW (lv_sub hl [1, 2, 3, 0] rfl)
      · skip
        refine lv_iinc (v := (nI (k + 1))) (lv' := [(3, .int (nI (k + 1))), (0, .ref (ad 0)), (1, .long (sX12_materialTo S (cN S)))]) hx hb dX12_removeMarks_43 hl (k := 2) rfl (nq_inc k 1) (by decide) rfl (fun ls hl => ?_)
        refine lv_goto (tgt := 11) hx hb dX12_removeMarks_46 (by decide) ?_
        exact ih (k + 1) (by omega) (by rw [← hinv]; simp only [xGone, if_neg c_39]) _ _ _ hW (lv_sub hl [1, 2, 0] rfl)
  exact loop1 (mM S) 0 (by omega) rfl _ _ _ hW (lv_sub hl [2, 1, 0] rfl)
