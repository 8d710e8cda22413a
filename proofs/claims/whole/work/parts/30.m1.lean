def mQ (S : St) : Nat := (S.2 11 52).toInt.toNat
def mM (S : St) : Nat := (S.2 11 62).toInt.toNat
def mH (S : St) : Nat := (S.2 11 63).toInt.toNat
def InvM (S : St) : Prop := (S.1 0 0 = nI (cN S) ∧ 1 ≤ cN S ∧ cN S ≤ 6) ∧ (S.2 11 52 = lN (mQ S) ∧ mQ S ≤ 4) ∧ S.2 11 62 = lN (mM S) ∧ (S.2 11 63 = lN (mH S) ∧ mH S ≤ 30) ∧ mM S + mQ S ≤ 512
theorem lNN {x : Int64} {n : Nat} (h : x = lN n) (hn : n ≤ 600) : x.toInt.toNat = n := by
  rw [h, lN_toInt (by omega)]
  omega
theorem InvM.of {S : St} {n q mc mh : Nat} (h1 : S.1 0 0 = nI n) (h2 : S.2 11 52 = lN q) (h3 : S.2 11 62 = lN mc) (h4 : S.2 11 63 = lN mh) (b : (1 ≤ n ∧ n ≤ 6) ∧ q ≤ 4 ∧ mh ≤ 30 ∧ mc + q ≤ 512) : InvM S := by
  have e1 : cN S = n := cK h1 (by omega)
  have e2 : mQ S = q := lNN h2 (by omega)
  have e3 : mM S = mc := lNN h3 (by omega)
  have e4 : mH S = mh := lNN h4 (by omega)
  unfold InvM
  rw [e1, e2, e3, e4]
  exact ⟨⟨h1, b.1⟩, ⟨h2, b.2.1⟩, h3, ⟨h4, b.2.2.1⟩, b.2.2.2⟩
theorem InvM.keep {S S' : St} (hI : InvM S) (h1 : S'.1 0 0 = S.1 0 0) (h2 : S'.2 11 52 = S.2 11 52) (h3 : S'.2 11 62 = S.2 11 62) (h4 : S'.2 11 63 = S.2 11 63) : InvM S' := by
  unfold InvM cN mQ mM mH at *
  rw [h1, h2, h3, h4]
  exact hI
theorem invM_now {S : St} {b : Nat} {v : Int64} (hI : InvM S) (h : ¬ b = 52 ∧ ¬ b = 62 ∧ ¬ b = 63) : InvM (sJ S 11 b v) :=
  hI.keep rfl (rJ_ne S 11 b v 52 (by omega)) (rJ_ne S 11 b v 62 (by omega)) (rJ_ne S 11 b v 63 (by omega))
theorem nq_dec (a : Nat) (h : 1 ≤ a) : nI a + Int32.ofInt (-1) = nI (a - 1) := by
  rw [← pk_sub h]
  show nI a + (-1) = nI a - nI 1
  rw [Int32.sub_eq_add_neg]
  rfl
theorem stay {α : Type} (f : Nat → α) (P : α → Prop) (h : ∀ j, ¬ P (f j) → f (j + 1) = f j) (k t : Nat) (hk : k ≤ t) (hn : ¬ P (f k)) : f t = f k := by
  obtain ⟨d, rfl⟩ : ∃ d, t = k + d := ⟨t - k, by omega⟩
  clear hk
  induction d with
  | zero => rfl
  | succ d ih => exact (h (k + d) (by rw [ih]; exact hn)).trans ih
def sX12_in (x : Int64) (y : Int64) (z : Int64) : Int32 := (if x < y then 0 else (if z < x then 0 else 1))
set_option maxHeartbeats 4000000 in
set_option maxRecDepth 100000 in
theorem c_X12_in (l : Launch) (D : va_G) (cc : Nat → ClassId) (ws : va_W) (x : Int64) (y : Int64) (z : Int64) : CtI l D cc yX12_in cX12_in 6 .boolean 0 [.long x, .long y, .long z] ws (sX12_in x y z) ws := by
  refine CtI.of (plainFor_of_name (by decide +kernel)) (by unfold sX12_in; repeat' (first | rfl | split)) (Nat.le_of_ble_eq_true rfl) ?_
  intro p e s m args below meth c A Q hC hW hend ls hl
  obtain ⟨⟨hx, hb, hml, hown, hts⟩, hNW⟩ := id hC
  have hl : lv_has ls 6 [(0, .long x), (2, .long y), (4, .long z)] := hl
  refine lv_lload_n hx hb dX12_in_0 rfl (lv_at hl 0 rfl) ?_
  refine lv_lload_n hx hb dX12_in_1 rfl (lv_at hl 1 rfl) ?_
  refine q_jlt (tgt := 17) hC dX12_in_2 dX12_in_3 (by decide) (fun c_2 => ?_) (fun c_2 => ?_)
  · skip
    refine lv_iconst (v := 0) hx hb dX12_in_17 (by decide) ?_
    exact hend _ _ _ _ _ _ (by simp only [sX12_in, if_pos c_2]) rfl hW dX12_in_18
  · skip
    refine lv_lload_n hx hb dX12_in_6 rfl (lv_at hl 0 rfl) ?_
    refine lv_lload hx hb dX12_in_7 (lv_at hl 2 rfl) ?_
    refine q_jgt (tgt := 17) hC dX12_in_9 dX12_in_10 (by decide) (fun c_9 => ?_) (fun c_9 => ?_)
    · skip
      refine lv_iconst (v := 0) hx hb dX12_in_17 (by decide) ?_
      exact hend _ _ _ _ _ _ (by simp only [sX12_in, if_neg c_2, if_pos c_9]) rfl hW dX12_in_18
    · skip
      refine lv_iconst (v := 1) hx hb dX12_in_13 (by decide) ?_
      refine lv_goto (tgt := 18) hx hb dX12_in_14 (by decide) ?_
      exact hend _ _ _ _ _ _ (by simp only [sX12_in, if_neg c_2, if_neg c_9]) rfl hW dX12_in_18
def sX12_lost  : Int64 := (-9223372036854775808)
set_option maxHeartbeats 4000000 in
set_option maxRecDepth 100000 in
theorem c_X12_lost (l : Launch) (D : va_G) (cc : Nat → ClassId) (ws : va_W) : CtL l D cc yX12_lost cX12_lost 0 0 [] ws sX12_lost ws := by
  refine CtL.of (plainFor_of_name (by decide +kernel)) (Nat.le_of_ble_eq_true rfl) ?_
  intro p e s m args below meth c A Q hC hW hend ls hl
  obtain ⟨⟨hx, hb, hml, hown, hts⟩, hNW⟩ := id hC
  have hl : lv_has ls 0 [] := hl
  refine q_ldc2 hC nX12_67 dX12_lost_0 ?_
  exact hend _ _ _ _ _ _ (by unfold sX12_lost; rfl) rfl hW dX12_lost_3
def sX12_down (x : Int64) (y : Int64) : Int64 := (if ((x / y) * y) ≤ x then (x / y) else ((x / y) - 1))
set_option maxHeartbeats 4000000 in
set_option maxRecDepth 100000 in
theorem c_X12_down (l : Launch) (D : va_G) (cc : Nat → ClassId) (ws : va_W) (x : Int64) (y : Int64) (hy : ¬ y = 0) : CtL l D cc yX12_down cX12_down 6 0 [.long x, .long y] ws (sX12_down x y) ws := by
  refine CtL.of (plainFor_of_name (by decide +kernel)) (Nat.le_of_ble_eq_true rfl) ?_
  intro p e s m args below meth c A Q hC hW hend ls hl
  obtain ⟨⟨hx, hb, hml, hown, hts⟩, hNW⟩ := id hC
  have hl : lv_has ls 6 [(0, .long x), (2, .long y)] := hl
  refine lv_lload_n hx hb dX12_down_0 rfl (lv_at hl 0 rfl) ?_
  refine lv_lload_n hx hb dX12_down_1 rfl (lv_at hl 1 rfl) ?_
  refine lv_ldiv hx hb dX12_down_2 hy ?_
  refine lv_lstore (lv' := [(4, .long (x / y)), (0, .long x), (2, .long y)]) hx hb dX12_down_3 hl (by decide) rfl (fun ls hl => ?_)
  refine lv_lload hx hb dX12_down_5 (lv_at hl 0 rfl) ?_
  refine lv_lload_n hx hb dX12_down_7 rfl (lv_at hl 2 rfl) ?_
  refine lv_lmul hx hb dX12_down_8 ?_
  refine lv_lload_n hx hb dX12_down_9 rfl (lv_at hl 1 rfl) ?_
  refine q_jle (tgt := 21) hC dX12_down_10 dX12_down_11 (by decide) (fun c_10 => ?_) (fun c_10 => ?_)
  · skip
    refine lv_lload hx hb dX12_down_21 (lv_at hl 0 rfl) ?_
    exact hend _ _ _ _ _ _ (by simp only [sX12_down, if_pos c_10]) rfl hW dX12_down_23
  · skip
    refine lv_lload hx hb dX12_down_14 (lv_at hl 0 rfl) ?_
    refine lv_lconst (v := 1) hx hb dX12_down_16 rfl ?_
    refine lv_lsub hx hb dX12_down_17 ?_
    refine lv_goto (tgt := 23) hx hb dX12_down_18 (by decide) ?_
    exact hend _ _ _ _ _ _ (by simp only [sX12_down, if_neg c_10]) rfl hW dX12_down_23
def sX12_kept (x : Int64) (y : Int64) (z : Int64) : Int64 := (if y ≤ x then (if x ≤ z then x else z) else y)
set_option maxHeartbeats 4000000 in
set_option maxRecDepth 100000 in
theorem c_X12_kept (l : Launch) (D : va_G) (cc : Nat → ClassId) (ws : va_W) (x : Int64) (y : Int64) (z : Int64) : CtL l D cc yX12_kept cX12_kept 6 0 [.long x, .long y, .long z] ws (sX12_kept x y z) ws := by
  refine CtL.of (plainFor_of_name (by decide +kernel)) (Nat.le_of_ble_eq_true rfl) ?_
  intro p e s m args below meth c A Q hC hW hend ls hl
  obtain ⟨⟨hx, hb, hml, hown, hts⟩, hNW⟩ := id hC
  have hl : lv_has ls 6 [(0, .long x), (2, .long y), (4, .long z)] := hl
  refine lv_lload_n hx hb dX12_kept_0 rfl (lv_at hl 0 rfl) ?_
  refine lv_lload_n hx hb dX12_kept_1 rfl (lv_at hl 1 rfl) ?_
  refine q_jge (tgt := 10) hC dX12_kept_2 dX12_kept_3 (by decide) (fun c_2 => ?_) (fun c_2 => ?_)
  · skip
    refine lv_lload_n hx hb dX12_kept_10 rfl (lv_at hl 0 rfl) ?_
    refine lv_lload hx hb dX12_kept_11 (lv_at hl 2 rfl) ?_
    refine q_jle (tgt := 22) hC dX12_kept_13 dX12_kept_14 (by decide) (fun c_13 => ?_) (fun c_13 => ?_)
    · skip
      refine lv_lload_n hx hb dX12_kept_22 rfl (lv_at hl 0 rfl) ?_
      exact hend _ _ _ _ _ _ (by simp only [sX12_kept, if_pos c_2, if_pos c_13]) rfl hW dX12_kept_23
    · skip
      refine lv_lload hx hb dX12_kept_17 (lv_at hl 2 rfl) ?_
      refine lv_goto (tgt := 23) hx hb dX12_kept_19 (by decide) ?_
      exact hend _ _ _ _ _ _ (by simp only [sX12_kept, if_pos c_2, if_neg c_13]) rfl hW dX12_kept_23
  · skip
    refine lv_lload_n hx hb dX12_kept_6 rfl (lv_at hl 1 rfl) ?_
    refine lv_goto (tgt := 23) hx hb dX12_kept_7 (by decide) ?_
    exact hend _ _ _ _ _ _ (by simp only [sX12_kept, if_neg c_2]) rfl hW dX12_kept_23
def sX12_isLength (x : Int32) : Int32 := (sX12_in (x.toInt64) 100000 10000000)
set_option maxHeartbeats 4000000 in
set_option maxRecDepth 100000 in
theorem c_X12_isLength (l : Launch) (D : va_G) (cc : Nat → ClassId) (ws : va_W) (x : Int32) : CtI l D cc yX12_isLength cX12_isLength 1 .boolean 1 [.int x] ws (sX12_isLength x) ws := by
  refine CtI.of (plainFor_of_name (by decide +kernel)) (by unfold sX12_isLength sX12_in; repeat' (first | rfl | split)) (Nat.le_of_ble_eq_true rfl) ?_
  intro p e s m args below meth c A Q hC hW hend ls hl
  obtain ⟨⟨hx, hb, hml, hown, hts⟩, hNW⟩ := id hC
  have hl : lv_has ls 1 [(0, .int x)] := hl
  refine lv_iload_n hx hb dX12_isLength_0 rfl (lv_at hl 0 rfl) ?_
  refine lv_i2l hx hb dX12_isLength_1 rfl ?_
  refine q_ldc2 hC nX12_114 dX12_isLength_2 ?_
  refine q_ldc2 hC nX12_116 dX12_isLength_5 ?_
  refine q_SI hC hW (c_X12_in l D cc _ (x.toInt64) 100000 10000000) mX12_118 (by decide) rfl hl.1 rfl (Nat.le_of_ble_eq_true rfl) (by decide) dX12_isLength_8 (fun H locs hW => ?_)
  exact hend _ _ _ _ _ _ (by unfold sX12_isLength; rfl) rfl hW dX12_isLength_11
def sX12_noSpan (S : St) (x : Int32) : Int32 := (if (sX12_in (x.toInt64) 0 (((S.1 0 0).toInt64) - 1)) = 0 then 1 else 0)
set_option maxHeartbeats 4000000 in
set_option maxRecDepth 100000 in
theorem c_X12_noSpan (l : Launch) (D : va_G) (cc : Nat → ClassId) (ad : Nat → Nat) (S : St) (x : Int32) : CtI l D cc yX12_noSpan cX12_noSpan 2 .boolean 1 [.ref (ad 0), .int x] (MW cc ad S) (sX12_noSpan S x) (MW cc ad S) := by
  refine CtI.of (plainFor_of_name (by decide +kernel)) (by unfold sX12_noSpan; repeat' (first | rfl | split)) (Nat.le_of_ble_eq_true rfl) ?_
  intro p e s m args below meth c A Q hC hW hend ls hl
  obtain ⟨⟨hx, hb, hml, hown, hts⟩, hNW⟩ := id hC
  have hl : lv_has ls 2 [(0, .ref (ad 0)), (1, .int x)] := hl
  refine lv_iload_n hx hb dX12_noSpan_0 rfl (lv_at hl 1 rfl) ?_
  refine lv_i2l hx hb dX12_noSpan_1 rfl ?_
  refine lv_lconst (v := 0) hx hb dX12_noSpan_2 rfl ?_
  refine lv_aload_n hx hb dX12_noSpan_3 rfl (lv_at hl 0 rfl) ?_
  refine q_get hC hW kX12_69 0 (Mg0 cc ad S) (v := .int (S.1 0 0)) rfl dX12_noSpan_4 ?_
  refine lv_i2l hx hb dX12_noSpan_7 rfl ?_
  refine lv_lconst (v := 1) hx hb dX12_noSpan_8 rfl ?_
  refine lv_lsub hx hb dX12_noSpan_9 ?_
  refine q_SI hC hW (c_X12_in l D cc _ (x.toInt64) 0 (((S.1 0 0).toInt64) - 1)) mX12_118 (by decide) rfl hl.1 rfl (Nat.le_of_ble_eq_true rfl) (by decide) dX12_noSpan_10 (fun H locs hW => ?_)
  refine lv_if_ne (tgt := 20) hx hb dX12_noSpan_13 (by decide) (fun c_13 => ?_) (fun c_13 => ?_)
  · skip
    refine lv_iconst (v := 0) hx hb dX12_noSpan_20 (by decide) ?_
    exact hend _ _ _ _ _ _ (by simp only [sX12_noSpan, if_neg c_13]) rfl hW dX12_noSpan_21
  · skip
    refine lv_iconst (v := 1) hx hb dX12_noSpan_16 (by decide) ?_
    refine lv_goto (tgt := 21) hx hb dX12_noSpan_17 (by decide) ?_
    exact hend _ _ _ _ _ _ (by simp only [sX12_noSpan, if_pos c_13]) rfl hW dX12_noSpan_21
def sX12_length (S : St) (i : Nat) : Int64 := (if (S.1 1 i) = 1 then ((S.2 1 i) + (2 * (S.2 11 (8 * i + 1)))) else ((S.2 1 i) + 0))
set_option maxHeartbeats 4000000 in
set_option maxRecDepth 100000 in
theorem c_X12_length (l : Launch) (D : va_G) (cc : Nat → ClassId) (ad : Nat → Nat) (S : St) (i : Nat) (hi : i < 6) : CtL l D cc yX12_length cX12_length 2 0 [.ref (ad 0), .int (nI i)] (MW cc ad S) (sX12_length S i) (MW cc ad S) := by
  refine CtL.of (plainFor_of_name (by decide +kernel)) (Nat.le_of_ble_eq_true rfl) ?_
  intro p e s m args below meth c A Q hC hW hend ls hl
  obtain ⟨⟨hx, hb, hml, hown, hts⟩, hNW⟩ := id hC
  have hl : lv_has ls 2 [(0, .ref (ad 0)), (1, .int (nI i))] := hl
  refine lv_aload_n hx hb dX12_length_0 rfl (lv_at hl 0 rfl) ?_
  refine q_get hC hW kX12_7 0 (Mg0 cc ad S) (v := .ref (ad 1)) rfl dX12_length_1 ?_
  refine lv_iload_n hx hb dX12_length_4 rfl (lv_at hl 1 rfl) ?_
  refine q_lald hC hW 1 (Mg1 cc ad S) (v := (S.2 1 i)) i rfl (by omega) (by decide) rfl dX12_length_5 ?_
  refine lv_aload_n hx hb dX12_length_6 rfl (lv_at hl 0 rfl) ?_
  refine q_get hC hW kX12_13 0 (Mg0 cc ad S) (v := .ref (ad 2)) rfl dX12_length_7 ?_
  refine lv_iload_n hx hb dX12_length_10 rfl (lv_at hl 1 rfl) ?_
  refine q_iald hC hW 2 (Mg2 cc ad S) (v := (S.1 1 i)) i rfl (by omega) (by decide) rfl dX12_length_11 ?_
  refine lv_iconst (v := 1) hx hb dX12_length_12 (by decide) ?_
  refine lv_icmp_ne (tgt := 34) hx hb dX12_length_13 (by decide) (fun c_13 => ?_) (fun c_13 => ?_)
  · skip
    refine lv_lconst (v := 0) hx hb dX12_length_34 rfl ?_
    refine lv_ladd hx hb dX12_length_35 ?_
    exact hend _ _ _ _ _ _ (by simp only [sX12_length, if_neg c_13]) rfl hW dX12_length_36
  · skip
    refine q_ldc2 hC nX12_129 dX12_length_16 ?_
    refine lv_aload_n hx hb dX12_length_19 rfl (lv_at hl 0 rfl) ?_
    refine q_get hC hW kX12_41 0 (Mg0 cc ad S) (v := .ref (ad 11)) rfl dX12_length_20 ?_
    refine lv_bipush (v := 8) hx hb dX12_length_23 (by decide) ?_
    refine lv_iload_n hx hb dX12_length_25 rfl (lv_at hl 1 rfl) ?_
    refine lv_imul hx hb dX12_length_26 ?_
    refine q_ri (v := nI (8 * i)) (nq_mul (a := 8) (b := i) rfl rfl) ?_
    refine lv_iconst (v := 1) hx hb dX12_length_27 (by decide) ?_
    refine lv_iadd hx hb dX12_length_28 ?_
    refine q_ri (v := nI (8 * i + 1)) ((nq_add (a := (8 * i)) (b := 1) rfl rfl).trans (congrArg nI (by omega))) ?_
    refine q_lald hC hW 11 (Mg11 cc ad S) (v := (S.2 11 (8 * i + 1))) (8 * i + 1) rfl (by omega) (by decide) rfl dX12_length_29 ?_
    refine lv_lmul hx hb dX12_length_30 ?_
    refine lv_goto (tgt := 35) hx hb dX12_length_31 (by decide) ?_
    refine lv_ladd hx hb dX12_length_35 ?_
    exact hend _ _ _ _ _ _ (by simp only [sX12_length, if_pos c_13]) rfl hW dX12_length_36
def sX12_equip (S : St) (i : Nat) (y : Int32) : Int32 := (if (S.1 1 i) = 0 then 0 else 1)
def sX12_equip_S (S : St) (i : Nat) (y : Int32) : St := (if y = 1 then (sJ (sJ (sJ (sI S 1 i y) 11 (8 * i + 1) ((S.2 3 i) / 2)) 11 (8 * i + 2) 0) 11 (8 * i) (sX12_length (sJ (sJ (sI S 1 i y) 11 (8 * i + 1) ((S.2 3 i) / 2)) 11 (8 * i + 2) 0) i)) else (sJ (sJ (sJ (sI S 1 i y) 11 (8 * i + 1) 0) 11 (8 * i + 2) 0) 11 (8 * i) (sX12_length (sJ (sJ (sI S 1 i y) 11 (8 * i + 1) 0) 11 (8 * i + 2) 0) i)))
set_option maxHeartbeats 4000000 in
set_option maxRecDepth 100000 in
theorem c_X12_equip (l : Launch) (D : va_G) (cc : Nat → ClassId) (ad : Nat → Nat) (S : St) (i : Nat) (y : Int32) (hi : i < 6) : CtI l D cc yX12_equip cX12_equip 4 .int 1 [.ref (ad 0), .int (nI i), .int y] (MW cc ad S) (sX12_equip S i y) (MW cc ad (sX12_equip_S S i y)) := by
  refine CtI.of (plainFor_of_name (by decide +kernel)) rfl (Nat.le_of_ble_eq_true rfl) ?_
  intro p e s m args below meth c A Q hC hW hend ls hl
  obtain ⟨⟨hx, hb, hml, hown, hts⟩, hNW⟩ := id hC
  have hl : lv_has ls 4 [(0, .ref (ad 0)), (1, .int (nI i)), (2, .int y)] := hl
  refine lv_aload_n hx hb dX12_equip_0 rfl (lv_at hl 0 rfl) ?_
  refine q_get hC hW kX12_13 0 (Mg0 cc ad S) (v := .ref (ad 2)) rfl dX12_equip_1 ?_
  refine lv_iload_n hx hb dX12_equip_4 rfl (lv_at hl 1 rfl) ?_
  refine q_iald hC hW 2 (Mg2 cc ad S) (v := (S.1 1 i)) i rfl (by omega) (by decide) rfl dX12_equip_5 ?_
  refine lv_if_ne (tgt := 13) hx hb dX12_equip_6 (by decide) (fun c_6 => ?_) (fun c_6 => ?_)
  · skip
    refine lv_iconst (v := 1) hx hb dX12_equip_13 (by decide) ?_
    refine lv_istore_n (lv' := [(3, .int 1), (0, .ref (ad 0)), (1, .int (nI i)), (2, .int y)]) hx hb dX12_equip_14 rfl hl (by decide) rfl (fun ls hl => ?_)
    refine lv_aload_n hx hb dX12_equip_15 rfl (lv_at hl 1 rfl) ?_
    refine q_get hC hW kX12_13 0 (Mg0 cc ad S) (v := .ref (ad 2)) rfl dX12_equip_16 ?_
    refine lv_iload_n hx hb dX12_equip_19 rfl (lv_at hl 2 rfl) ?_
    refine lv_iload_n hx hb dX12_equip_20 rfl (lv_at hl 3 rfl) ?_
    refine q_iast hC hW 2 (Mg2 cc ad S) i rfl (by omega) (by decide) (Ms2 cc ad S i y) dX12_equip_21 (fun H locs hW => ?_)
    refine lv_aload_n hx hb dX12_equip_22 rfl (lv_at hl 1 rfl) ?_
    refine q_get hC hW kX12_41 0 (Mg0 cc ad (sI S 1 i y)) (v := .ref (ad 11)) rfl dX12_equip_23 ?_
    refine lv_bipush (v := 8) hx hb dX12_equip_26 (by decide) ?_
    refine lv_iload_n hx hb dX12_equip_28 rfl (lv_at hl 2 rfl) ?_
    refine lv_imul hx hb dX12_equip_29 ?_
    refine q_ri (v := nI (8 * i)) (nq_mul (a := 8) (b := i) rfl rfl) ?_
    refine lv_iconst (v := 1) hx hb dX12_equip_30 (by decide) ?_
    refine lv_iadd hx hb dX12_equip_31 ?_
    refine q_ri (v := nI (8 * i + 1)) ((nq_add (a := (8 * i)) (b := 1) rfl rfl).trans (congrArg nI (by omega))) ?_
    refine lv_iload_n hx hb dX12_equip_32 rfl (lv_at hl 3 rfl) ?_
    refine lv_iconst (v := 1) hx hb dX12_equip_33 (by decide) ?_
    refine lv_icmp_ne (tgt := 50) hx hb dX12_equip_34 (by decide) (fun c_34 => ?_) (fun c_34 => ?_)
    · skip
      refine lv_lconst (v := 0) hx hb dX12_equip_50 rfl ?_
      refine q_last hC hW 11 (Mg11 cc ad (sI S 1 i y)) (8 * i + 1) rfl (by omega) (by decide) (Ms11 cc ad (sI S 1 i y) (8 * i + 1) 0) dX12_equip_51 (fun H locs hW => ?_)
      refine lv_aload_n hx hb dX12_equip_52 rfl (lv_at hl 1 rfl) ?_
      refine q_get hC hW kX12_41 0 (Mg0 cc ad (sJ (sI S 1 i y) 11 (8 * i + 1) 0)) (v := .ref (ad 11)) rfl dX12_equip_53 ?_
      refine lv_bipush (v := 8) hx hb dX12_equip_56 (by decide) ?_
      refine lv_iload_n hx hb dX12_equip_58 rfl (lv_at hl 2 rfl) ?_
      refine lv_imul hx hb dX12_equip_59 ?_
      refine q_ri (v := nI (8 * i)) (nq_mul (a := 8) (b := i) rfl rfl) ?_
      refine lv_iconst (v := 2) hx hb dX12_equip_60 (by decide) ?_
      refine lv_iadd hx hb dX12_equip_61 ?_
      refine q_ri (v := nI (8 * i + 2)) ((nq_add (a := (8 * i)) (b := 2) rfl rfl).trans (congrArg nI (by omega))) ?_
      refine lv_lconst (v := 0) hx hb dX12_equip_62 rfl ?_
      refine q_last hC hW 11 (Mg11 cc ad (sJ (sI S 1 i y) 11 (8 * i + 1) 0)) (8 * i + 2) rfl (by omega) (by decide) (Ms11 cc ad (sJ (sI S 1 i y) 11 (8 * i + 1) 0) (8 * i + 2) 0) dX12_equip_63 (fun H locs hW => ?_)
      refine lv_aload_n hx hb dX12_equip_64 rfl (lv_at hl 1 rfl) ?_
      refine q_get hC hW kX12_41 0 (Mg0 cc ad (sJ (sJ (sI S 1 i y) 11 (8 * i + 1) 0) 11 (8 * i + 2) 0)) (v := .ref (ad 11)) rfl dX12_equip_65 ?_
      refine lv_bipush (v := 8) hx hb dX12_equip_68 (by decide) ?_
      refine lv_iload_n hx hb dX12_equip_70 rfl (lv_at hl 2 rfl) ?_
      refine lv_imul hx hb dX12_equip_71 ?_
      refine q_ri (v := nI (8 * i)) (nq_mul (a := 8) (b := i) rfl rfl) ?_
      refine lv_iconst (v := 0) hx hb dX12_equip_72 (by decide) ?_
      refine lv_iadd hx hb dX12_equip_73 ?_
      refine q_ri (v := nI (8 * i)) ((nq_add (a := (8 * i)) (b := 0) rfl rfl).trans (congrArg nI (by omega))) ?_
      refine lv_aload_n hx hb dX12_equip_74 rfl (lv_at hl 1 rfl) ?_
      refine lv_iload_n hx hb dX12_equip_75 rfl (lv_at hl 2 rfl) ?_
      refine q_VL hC hW (c_X12_length l D cc ad (sJ (sJ (sI S 1 i y) 11 (8 * i + 1) 0) 11 (8 * i + 2) 0) i (by omega)) mX12_131 0 (Mg0 cc ad (sJ (sJ (sI S 1 i y) 11 (8 * i + 1) 0) 11 (8 * i + 2) 0)) rfl (by decide) rfl hl.1 rfl (Nat.le_of_ble_eq_true rfl) (by decide) dX12_equip_76 (fun H locs hW => ?_)
      refine q_last hC hW 11 (Mg11 cc ad (sJ (sJ (sI S 1 i y) 11 (8 * i + 1) 0) 11 (8 * i + 2) 0)) (8 * i) rfl (by omega) (by decide) (Ms11 cc ad (sJ (sJ (sI S 1 i y) 11 (8 * i + 1) 0) 11 (8 * i + 2) 0) (8 * i) (sX12_length (sJ (sJ (sI S 1 i y) 11 (8 * i + 1) 0) 11 (8 * i + 2) 0) i)) dX12_equip_79 (fun H locs hW => ?_)
      refine lv_iload_n hx hb dX12_equip_80 rfl (lv_at hl 0 rfl) ?_
      exact hend _ _ _ _ _ _ (by simp only [sX12_equip, if_neg c_6, if_neg c_34]) (by simp only [sX12_equip_S, if_neg c_6, if_neg c_34]) hW dX12_equip_81
    · skip
      refine lv_aload_n hx hb dX12_equip_37 rfl (lv_at hl 1 rfl) ?_
      refine q_get hC hW kX12_17 0 (Mg0 cc ad (sI S 1 i y)) (v := .ref (ad 3)) rfl dX12_equip_38 ?_
      refine lv_iload_n hx hb dX12_equip_41 rfl (lv_at hl 2 rfl) ?_
      refine q_lald hC hW 3 (Mg3 cc ad (sI S 1 i y)) (v := (S.2 3 i)) i rfl (by omega) (by decide) rfl dX12_equip_42 ?_
      refine q_ldc2 hC nX12_129 dX12_equip_43 ?_
      refine lv_ldiv hx hb dX12_equip_46 (by decide) ?_
      refine lv_goto (tgt := 51) hx hb dX12_equip_47 (by decide) ?_
      refine q_last hC hW 11 (Mg11 cc ad (sI S 1 i y)) (8 * i + 1) rfl (by omega) (by decide) (Ms11 cc ad (sI S 1 i y) (8 * i + 1) ((S.2 3 i) / 2)) dX12_equip_51 (fun H locs hW => ?_)
      refine lv_aload_n hx hb dX12_equip_52 rfl (lv_at hl 1 rfl) ?_
      refine q_get hC hW kX12_41 0 (Mg0 cc ad (sJ (sI S 1 i y) 11 (8 * i + 1) ((S.2 3 i) / 2))) (v := .ref (ad 11)) rfl dX12_equip_53 ?_
      refine lv_bipush (v := 8) hx hb dX12_equip_56 (by decide) ?_
      refine lv_iload_n hx hb dX12_equip_58 rfl (lv_at hl 2 rfl) ?_
      refine lv_imul hx hb dX12_equip_59 ?_
      refine q_ri (v := nI (8 * i)) (nq_mul (a := 8) (b := i) rfl rfl) ?_
      refine lv_iconst (v := 2) hx hb dX12_equip_60 (by decide) ?_
      refine lv_iadd hx hb dX12_equip_61 ?_
      refine q_ri (v := nI (8 * i + 2)) ((nq_add (a := (8 * i)) (b := 2) rfl rfl).trans (congrArg nI (by omega))) ?_
      refine lv_lconst (v := 0) hx hb dX12_equip_62 rfl ?_
      refine q_last hC hW 11 (Mg11 cc ad (sJ (sI S 1 i y) 11 (8 * i + 1) ((S.2 3 i) / 2))) (8 * i + 2) rfl (by omega) (by decide) (Ms11 cc ad (sJ (sI S 1 i y) 11 (8 * i + 1) ((S.2 3 i) / 2)) (8 * i + 2) 0) dX12_equip_63 (fun H locs hW => ?_)
      refine lv_aload_n hx hb dX12_equip_64 rfl (lv_at hl 1 rfl) ?_
      refine q_get hC hW kX12_41 0 (Mg0 cc ad (sJ (sJ (sI S 1 i y) 11 (8 * i + 1) ((S.2 3 i) / 2)) 11 (8 * i + 2) 0)) (v := .ref (ad 11)) rfl dX12_equip_65 ?_
      refine lv_bipush (v := 8) hx hb dX12_equip_68 (by decide) ?_
      refine lv_iload_n hx hb dX12_equip_70 rfl (lv_at hl 2 rfl) ?_
      refine lv_imul hx hb dX12_equip_71 ?_
      refine q_ri (v := nI (8 * i)) (nq_mul (a := 8) (b := i) rfl rfl) ?_
      refine lv_iconst (v := 0) hx hb dX12_equip_72 (by decide) ?_
      refine lv_iadd hx hb dX12_equip_73 ?_
      refine q_ri (v := nI (8 * i)) ((nq_add (a := (8 * i)) (b := 0) rfl rfl).trans (congrArg nI (by omega))) ?_
      refine lv_aload_n hx hb dX12_equip_74 rfl (lv_at hl 1 rfl) ?_
      refine lv_iload_n hx hb dX12_equip_75 rfl (lv_at hl 2 rfl) ?_
      refine q_VL hC hW (c_X12_length l D cc ad (sJ (sJ (sI S 1 i y) 11 (8 * i + 1) ((S.2 3 i) / 2)) 11 (8 * i + 2) 0) i (by omega)) mX12_131 0 (Mg0 cc ad (sJ (sJ (sI S 1 i y) 11 (8 * i + 1) ((S.2 3 i) / 2)) 11 (8 * i + 2) 0)) rfl (by decide) rfl hl.1 rfl (Nat.le_of_ble_eq_true rfl) (by decide) dX12_equip_76 (fun H locs hW => ?_)
      refine q_last hC hW 11 (Mg11 cc ad (sJ (sJ (sI S 1 i y) 11 (8 * i + 1) ((S.2 3 i) / 2)) 11 (8 * i + 2) 0)) (8 * i) rfl (by omega) (by decide) (Ms11 cc ad (sJ (sJ (sI S 1 i y) 11 (8 * i + 1) ((S.2 3 i) / 2)) 11 (8 * i + 2) 0) (8 * i) (sX12_length (sJ (sJ (sI S 1 i y) 11 (8 * i + 1) ((S.2 3 i) / 2)) 11 (8 * i + 2) 0) i)) dX12_equip_79 (fun H locs hW => ?_)
      refine lv_iload_n hx hb dX12_equip_80 rfl (lv_at hl 0 rfl) ?_
      exact hend _ _ _ _ _ _ (by simp only [sX12_equip, if_neg c_6, if_pos c_34]) (by simp only [sX12_equip_S, if_neg c_6, if_pos c_34]) hW dX12_equip_81
  · skip
    refine lv_iconst (v := 0) hx hb dX12_equip_9 (by decide) ?_
    refine lv_goto (tgt := 14) hx hb dX12_equip_10 (by decide) ?_
    refine lv_istore_n (lv' := [(3, .int 0), (0, .ref (ad 0)), (1, .int (nI i)), (2, .int y)]) hx hb dX12_equip_14 rfl hl (by decide) rfl (fun ls hl => ?_)
    refine lv_aload_n hx hb dX12_equip_15 rfl (lv_at hl 1 rfl) ?_
    refine q_get hC hW kX12_13 0 (Mg0 cc ad S) (v := .ref (ad 2)) rfl dX12_equip_16 ?_
    refine lv_iload_n hx hb dX12_equip_19 rfl (lv_at hl 2 rfl) ?_
    refine lv_iload_n hx hb dX12_equip_20 rfl (lv_at hl 3 rfl) ?_
    refine q_iast hC hW 2 (Mg2 cc ad S) i rfl (by omega) (by decide) (Ms2 cc ad S i y) dX12_equip_21 (fun H locs hW => ?_)
    refine lv_aload_n hx hb dX12_equip_22 rfl (lv_at hl 1 rfl) ?_
    refine q_get hC hW kX12_41 0 (Mg0 cc ad (sI S 1 i y)) (v := .ref (ad 11)) rfl dX12_equip_23 ?_
    refine lv_bipush (v := 8) hx hb dX12_equip_26 (by decide) ?_
    refine lv_iload_n hx hb dX12_equip_28 rfl (lv_at hl 2 rfl) ?_
    refine lv_imul hx hb dX12_equip_29 ?_
    refine q_ri (v := nI (8 * i)) (nq_mul (a := 8) (b := i) rfl rfl) ?_
    refine lv_iconst (v := 1) hx hb dX12_equip_30 (by decide) ?_
    refine lv_iadd hx hb dX12_equip_31 ?_
    refine q_ri (v := nI (8 * i + 1)) ((nq_add (a := (8 * i)) (b := 1) rfl rfl).trans (congrArg nI (by omega))) ?_
    refine lv_iload_n hx hb dX12_equip_32 rfl (lv_at hl 3 rfl) ?_
    refine lv_iconst (v := 1) hx hb dX12_equip_33 (by decide) ?_
    refine lv_icmp_ne (tgt := 50) hx hb dX12_equip_34 (by decide) (fun c_34 => ?_) (fun c_34 => ?_)
    · skip
      refine lv_lconst (v := 0) hx hb dX12_equip_50 rfl ?_
      refine q_last hC hW 11 (Mg11 cc ad (sI S 1 i y)) (8 * i + 1) rfl (by omega) (by decide) (Ms11 cc ad (sI S 1 i y) (8 * i + 1) 0) dX12_equip_51 (fun H locs hW => ?_)
      refine lv_aload_n hx hb dX12_equip_52 rfl (lv_at hl 1 rfl) ?_
      refine q_get hC hW kX12_41 0 (Mg0 cc ad (sJ (sI S 1 i y) 11 (8 * i + 1) 0)) (v := .ref (ad 11)) rfl dX12_equip_53 ?_
      refine lv_bipush (v := 8) hx hb dX12_equip_56 (by decide) ?_
      refine lv_iload_n hx hb dX12_equip_58 rfl (lv_at hl 2 rfl) ?_
      refine lv_imul hx hb dX12_equip_59 ?_
      refine q_ri (v := nI (8 * i)) (nq_mul (a := 8) (b := i) rfl rfl) ?_
      refine lv_iconst (v := 2) hx hb dX12_equip_60 (by decide) ?_
      refine lv_iadd hx hb dX12_equip_61 ?_
      refine q_ri (v := nI (8 * i + 2)) ((nq_add (a := (8 * i)) (b := 2) rfl rfl).trans (congrArg nI (by omega))) ?_
      refine lv_lconst (v := 0) hx hb dX12_equip_62 rfl ?_
      refine q_last hC hW 11 (Mg11 cc ad (sJ (sI S 1 i y) 11 (8 * i + 1) 0)) (8 * i + 2) rfl (by omega) (by decide) (Ms11 cc ad (sJ (sI S 1 i y) 11 (8 * i + 1) 0) (8 * i + 2) 0) dX12_equip_63 (fun H locs hW => ?_)
      refine lv_aload_n hx hb dX12_equip_64 rfl (lv_at hl 1 rfl) ?_
      refine q_get hC hW kX12_41 0 (Mg0 cc ad (sJ (sJ (sI S 1 i y) 11 (8 * i + 1) 0) 11 (8 * i + 2) 0)) (v := .ref (ad 11)) rfl dX12_equip_65 ?_
      refine lv_bipush (v := 8) hx hb dX12_equip_68 (by decide) ?_
      refine lv_iload_n hx hb dX12_equip_70 rfl (lv_at hl 2 rfl) ?_
      refine lv_imul hx hb dX12_equip_71 ?_
      refine q_ri (v := nI (8 * i)) (nq_mul (a := 8) (b := i) rfl rfl) ?_
      refine lv_iconst (v := 0) hx hb dX12_equip_72 (by decide) ?_
      refine lv_iadd hx hb dX12_equip_73 ?_
      refine q_ri (v := nI (8 * i)) ((nq_add (a := (8 * i)) (b := 0) rfl rfl).trans (congrArg nI (by omega))) ?_
      refine lv_aload_n hx hb dX12_equip_74 rfl (lv_at hl 1 rfl) ?_
      refine lv_iload_n hx hb dX12_equip_75 rfl (lv_at hl 2 rfl) ?_
      refine q_VL hC hW (c_X12_length l D cc ad (sJ (sJ (sI S 1 i y) 11 (8 * i + 1) 0) 11 (8 * i + 2) 0) i (by omega)) mX12_131 0 (Mg0 cc ad (sJ (sJ (sI S 1 i y) 11 (8 * i + 1) 0) 11 (8 * i + 2) 0)) rfl (by decide) rfl hl.1 rfl (Nat.le_of_ble_eq_true rfl) (by decide) dX12_equip_76 (fun H locs hW => ?_)
      refine q_last hC hW 11 (Mg11 cc ad (sJ (sJ (sI S 1 i y) 11 (8 * i + 1) 0) 11 (8 * i + 2) 0)) (8 * i) rfl (by omega) (by decide) (Ms11 cc ad (sJ (sJ (sI S 1 i y) 11 (8 * i + 1) 0) 11 (8 * i + 2) 0) (8 * i) (sX12_length (sJ (sJ (sI S 1 i y) 11 (8 * i + 1) 0) 11 (8 * i + 2) 0) i)) dX12_equip_79 (fun H locs hW => ?_)
      refine lv_iload_n hx hb dX12_equip_80 rfl (lv_at hl 0 rfl) ?_
      exact hend _ _ _ _ _ _ (by simp only [sX12_equip, if_pos c_6, if_neg c_34]) (by simp only [sX12_equip_S, if_pos c_6, if_neg c_34]) hW dX12_equip_81
    · skip
      refine lv_aload_n hx hb dX12_equip_37 rfl (lv_at hl 1 rfl) ?_
      refine q_get hC hW kX12_17 0 (Mg0 cc ad (sI S 1 i y)) (v := .ref (ad 3)) rfl dX12_equip_38 ?_
      refine lv_iload_n hx hb dX12_equip_41 rfl (lv_at hl 2 rfl) ?_
      refine q_lald hC hW 3 (Mg3 cc ad (sI S 1 i y)) (v := (S.2 3 i)) i rfl (by omega) (by decide) rfl dX12_equip_42 ?_
      refine q_ldc2 hC nX12_129 dX12_equip_43 ?_
      refine lv_ldiv hx hb dX12_equip_46 (by decide) ?_
      refine lv_goto (tgt := 51) hx hb dX12_equip_47 (by decide) ?_
      refine q_last hC hW 11 (Mg11 cc ad (sI S 1 i y)) (8 * i + 1) rfl (by omega) (by decide) (Ms11 cc ad (sI S 1 i y) (8 * i + 1) ((S.2 3 i) / 2)) dX12_equip_51 (fun H locs hW => ?_)
      refine lv_aload_n hx hb dX12_equip_52 rfl (lv_at hl 1 rfl) ?_
      refine q_get hC hW kX12_41 0 (Mg0 cc ad (sJ (sI S 1 i y) 11 (8 * i + 1) ((S.2 3 i) / 2))) (v := .ref (ad 11)) rfl dX12_equip_53 ?_
      refine lv_bipush (v := 8) hx hb dX12_equip_56 (by decide) ?_
      refine lv_iload_n hx hb dX12_equip_58 rfl (lv_at hl 2 rfl) ?_
      refine lv_imul hx hb dX12_equip_59 ?_
      refine q_ri (v := nI (8 * i)) (nq_mul (a := 8) (b := i) rfl rfl) ?_
      refine lv_iconst (v := 2) hx hb dX12_equip_60 (by decide) ?_
      refine lv_iadd hx hb dX12_equip_61 ?_
      refine q_ri (v := nI (8 * i + 2)) ((nq_add (a := (8 * i)) (b := 2) rfl rfl).trans (congrArg nI (by omega))) ?_
      refine lv_lconst (v := 0) hx hb dX12_equip_62 rfl ?_
      refine q_last hC hW 11 (Mg11 cc ad (sJ (sI S 1 i y) 11 (8 * i + 1) ((S.2 3 i) / 2))) (8 * i + 2) rfl (by omega) (by decide) (Ms11 cc ad (sJ (sI S 1 i y) 11 (8 * i + 1) ((S.2 3 i) / 2)) (8 * i + 2) 0) dX12_equip_63 (fun H locs hW => ?_)
      refine lv_aload_n hx hb dX12_equip_64 rfl (lv_at hl 1 rfl) ?_
      refine q_get hC hW kX12_41 0 (Mg0 cc ad (sJ (sJ (sI S 1 i y) 11 (8 * i + 1) ((S.2 3 i) / 2)) 11 (8 * i + 2) 0)) (v := .ref (ad 11)) rfl dX12_equip_65 ?_
      refine lv_bipush (v := 8) hx hb dX12_equip_68 (by decide) ?_
      refine lv_iload_n hx hb dX12_equip_70 rfl (lv_at hl 2 rfl) ?_
      refine lv_imul hx hb dX12_equip_71 ?_
      refine q_ri (v := nI (8 * i)) (nq_mul (a := 8) (b := i) rfl rfl) ?_
      refine lv_iconst (v := 0) hx hb dX12_equip_72 (by decide) ?_
      refine lv_iadd hx hb dX12_equip_73 ?_
      refine q_ri (v := nI (8 * i)) ((nq_add (a := (8 * i)) (b := 0) rfl rfl).trans (congrArg nI (by omega))) ?_
      refine lv_aload_n hx hb dX12_equip_74 rfl (lv_at hl 1 rfl) ?_
      refine lv_iload_n hx hb dX12_equip_75 rfl (lv_at hl 2 rfl) ?_
      refine q_VL hC hW (c_X12_length l D cc ad (sJ (sJ (sI S 1 i y) 11 (8 * i + 1) ((S.2 3 i) / 2)) 11 (8 * i + 2) 0) i (by omega)) mX12_131 0 (Mg0 cc ad (sJ (sJ (sI S 1 i y) 11 (8 * i + 1) ((S.2 3 i) / 2)) 11 (8 * i + 2) 0)) rfl (by decide) rfl hl.1 rfl (Nat.le_of_ble_eq_true rfl) (by decide) dX12_equip_76 (fun H locs hW => ?_)
      refine q_last hC hW 11 (Mg11 cc ad (sJ (sJ (sI S 1 i y) 11 (8 * i + 1) ((S.2 3 i) / 2)) 11 (8 * i + 2) 0)) (8 * i) rfl (by omega) (by decide) (Ms11 cc ad (sJ (sJ (sI S 1 i y) 11 (8 * i + 1) ((S.2 3 i) / 2)) 11 (8 * i + 2) 0) (8 * i) (sX12_length (sJ (sJ (sI S 1 i y) 11 (8 * i + 1) ((S.2 3 i) / 2)) 11 (8 * i + 2) 0) i)) dX12_equip_79 (fun H locs hW => ?_)
      refine lv_iload_n hx hb dX12_equip_80 rfl (lv_at hl 0 rfl) ?_
      exact hend _ _ _ _ _ _ (by simp only [sX12_equip, if_pos c_6, if_pos c_34]) (by simp only [sX12_equip_S, if_pos c_6, if_pos c_34]) hW dX12_equip_81
def sX12_tension (S : St) (i : Nat) : Int64 := (if (sX12_length S i) ≤ (S.2 11 (8 * i)) then 0 else (((S.2 0 0) * ((sX12_length S i) - (S.2 11 (8 * i)))) / (S.2 11 (8 * i))))
set_option maxHeartbeats 4000000 in
set_option maxRecDepth 100000 in
theorem c_X12_tension (l : Launch) (D : va_G) (cc : Nat → ClassId) (ad : Nat → Nat) (S : St) (i : Nat) (hi : i < 6) (hu : ¬ S.2 11 (8 * i) = 0) : CtL l D cc yX12_tension cX12_tension 6 1 [.ref (ad 0), .int (nI i)] (MW cc ad S) (sX12_tension S i) (MW cc ad S) := by
  refine CtL.of (plainFor_of_name (by decide +kernel)) (Nat.le_of_ble_eq_true rfl) ?_
  intro p e s m args below meth c A Q hC hW hend ls hl
  obtain ⟨⟨hx, hb, hml, hown, hts⟩, hNW⟩ := id hC
  have hl : lv_has ls 6 [(0, .ref (ad 0)), (1, .int (nI i))] := hl
  refine lv_aload_n hx hb dX12_tension_0 rfl (lv_at hl 0 rfl) ?_
  refine lv_iload_n hx hb dX12_tension_1 rfl (lv_at hl 1 rfl) ?_
  refine q_VL hC hW (c_X12_length l D cc ad S i (by omega)) mX12_131 0 (Mg0 cc ad S) rfl (by decide) rfl hl.1 rfl (Nat.le_of_ble_eq_true rfl) (by decide) dX12_tension_2 (fun H locs hW => ?_)
  refine lv_lstore_n (lv' := [(2, .long (sX12_length S i)), (0, .ref (ad 0)), (1, .int (nI i))]) hx hb dX12_tension_5 rfl hl (by decide) rfl (fun ls hl => ?_)
  refine lv_aload_n hx hb dX12_tension_6 rfl (lv_at hl 1 rfl) ?_
  refine q_get hC hW kX12_41 0 (Mg0 cc ad S) (v := .ref (ad 11)) rfl dX12_tension_7 ?_
  refine lv_bipush (v := 8) hx hb dX12_tension_10 (by decide) ?_
  refine lv_iload_n hx hb dX12_tension_12 rfl (lv_at hl 2 rfl) ?_
  refine lv_imul hx hb dX12_tension_13 ?_
  refine q_ri (v := nI (8 * i)) (nq_mul (a := 8) (b := i) rfl rfl) ?_
  refine lv_iconst (v := 0) hx hb dX12_tension_14 (by decide) ?_
  refine lv_iadd hx hb dX12_tension_15 ?_
  refine q_ri (v := nI (8 * i)) ((nq_add (a := (8 * i)) (b := 0) rfl rfl).trans (congrArg nI (by omega))) ?_
  refine q_lald hC hW 11 (Mg11 cc ad S) (v := (S.2 11 (8 * i))) (8 * i) rfl (by omega) (by decide) rfl dX12_tension_16 ?_
  refine lv_lstore (lv' := [(4, .long (S.2 11 (8 * i))), (2, .long (sX12_length S i)), (0, .ref (ad 0)), (1, .int (nI i))]) hx hb dX12_tension_17 hl (by decide) rfl (fun ls hl => ?_)
  refine lv_lload_n hx hb dX12_tension_19 rfl (lv_at hl 1 rfl) ?_
  refine lv_lload hx hb dX12_tension_20 (lv_at hl 0 rfl) ?_
  refine q_jle (tgt := 41) hC dX12_tension_22 dX12_tension_23 (by decide) (fun c_22 => ?_) (fun c_22 => ?_)
  · skip
    refine lv_lconst (v := 0) hx hb dX12_tension_41 rfl ?_
    exact hend _ _ _ _ _ _ (by simp only [sX12_tension, if_pos c_22]) rfl hW dX12_tension_42
  · skip
    refine lv_aload_n hx hb dX12_tension_26 rfl (lv_at hl 2 rfl) ?_
    refine q_get hC hW kX12_75 0 (Mg0 cc ad S) (v := .long (S.2 0 0)) rfl dX12_tension_27 ?_
    refine lv_lload_n hx hb dX12_tension_30 rfl (lv_at hl 1 rfl) ?_
    refine lv_lload hx hb dX12_tension_31 (lv_at hl 0 rfl) ?_
    refine lv_lsub hx hb dX12_tension_33 ?_
    refine lv_lmul hx hb dX12_tension_34 ?_
    refine lv_lload hx hb dX12_tension_35 (lv_at hl 0 rfl) ?_
    refine lv_ldiv hx hb dX12_tension_37 hu ?_
    refine lv_goto (tgt := 42) hx hb dX12_tension_38 (by decide) ?_
    exact hend _ _ _ _ _ _ (by simp only [sX12_tension, if_neg c_22]) rfl hW dX12_tension_42
def LX12_nominalSpeed_6_4 (S : St) (r : Nat) (x : Int64) : Nat → Int64
  | 0 => x
  | k + 1 => (sX12_down ((LX12_nominalSpeed_6_4 S r x k) * (1000000 + (S.2 10 k))) 1000000)
def sX12_nominalSpeed (S : St) (r : Nat) (x : Int64) : Int64 := (LX12_nominalSpeed_6_4 S r x r)
set_option maxHeartbeats 4000000 in
set_option maxRecDepth 100000 in
theorem c_X12_nominalSpeed (l : Launch) (D : va_G) (cc : Nat → ClassId) (ad : Nat → Nat) (S : St) (r : Nat) (x : Int64) (hr : r ≤ 6) : CtL l D cc yX12_nominalSpeed cX12_nominalSpeed 7 1 [.ref (ad 0), .int (nI r), .long x] (MW cc ad S) (sX12_nominalSpeed S r x) (MW cc ad S) := by
  refine CtL.of (plainFor_of_name (by decide +kernel)) (Nat.le_of_ble_eq_true rfl) ?_
  intro p e s m args below meth c A Q hC hW hend ls hl
  obtain ⟨⟨hx, hb, hml, hown, hts⟩, hNW⟩ := id hC
  have hl : lv_has ls 7 [(0, .ref (ad 0)), (1, .int (nI r)), (2, .long x)] := hl
  refine lv_lload_n hx hb dX12_nominalSpeed_0 rfl (lv_at hl 2 rfl) ?_
  refine lv_lstore (lv' := [(4, .long x), (0, .ref (ad 0)), (1, .int (nI r)), (2, .long x)]) hx hb dX12_nominalSpeed_1 hl (by decide) rfl (fun ls hl => ?_)
  refine lv_iconst (v := 0) hx hb dX12_nominalSpeed_3 (by decide) ?_
  refine lv_istore (lv' := [(6, .int 0), (4, .long x), (0, .ref (ad 0)), (1, .int (nI r)), (2, .long x)]) hx hb dX12_nominalSpeed_4 hl (by decide) rfl (fun ls hl => ?_)
  have loop1 : ∀ (rn k : Nat), k + rn = r → ∀ (H : Heap) (locs : List Loc) (ls : Array Slot), Wd D cc (MW cc ad S) A s.heap H locs s → lv_has ls 7 [(0, .ref (ad 0)), (1, .int (nI r)), (2, .long x), (4, .long (LX12_nominalSpeed_6_4 S r x k)), (6, .int (nI k))] → W p l e (rmD 1) s m args below meth c H locs 0 0 Q (F0 m 6 ls []) := by
    intro rn
    induction rn with
    | zero =>
      intro k hk H locs ls hW hl
      obtain rfl : r = k := by omega
      refine lv_iload hx hb dX12_nominalSpeed_6 (lv_at hl 4 rfl) ?_
      refine lv_iload_n hx hb dX12_nominalSpeed_8 rfl (lv_at hl 1 rfl) ?_
      refine q_icmp_ge_n (tgt := 40) hx hb (a := r) (b := r) rfl rfl (by omega) (by omega) dX12_nominalSpeed_9 (by decide) (fun c_9 => ?_) (fun c_9 => by exfalso; omega)
      refine lv_lload hx hb dX12_nominalSpeed_40 (lv_at hl 3 rfl) ?_
      exact hend _ _ _ _ _ _ (by unfold sX12_nominalSpeed; rfl) rfl hW dX12_nominalSpeed_42
    | succ rn ih =>
      intro k hk H locs ls hW hl
      have hkN : k < r := by omega
      refine lv_iload hx hb dX12_nominalSpeed_6 (lv_at hl 4 rfl) ?_
      refine lv_iload_n hx hb dX12_nominalSpeed_8 rfl (lv_at hl 1 rfl) ?_
      refine q_icmp_ge_n (tgt := 40) hx hb (a := k) (b := r) rfl rfl (by omega) (by omega) dX12_nominalSpeed_9 (by decide) (fun c_9 => by exfalso; omega) (fun c_9 => ?_)
      refine lv_lload hx hb dX12_nominalSpeed_12 (lv_at hl 3 rfl) ?_
      refine q_ldc2 hC nX12_73 dX12_nominalSpeed_14 ?_
      refine lv_aload_n hx hb dX12_nominalSpeed_17 rfl (lv_at hl 0 rfl) ?_
      refine q_get hC hW kX12_38 0 (Mg0 cc ad S) (v := .ref (ad 10)) rfl dX12_nominalSpeed_18 ?_
      refine lv_iload hx hb dX12_nominalSpeed_21 (lv_at hl 4 rfl) ?_
      refine q_lald hC hW 10 (Mg10 cc ad S) (v := (S.2 10 k)) k rfl (by omega) (by decide) rfl dX12_nominalSpeed_23 ?_
      refine lv_ladd hx hb dX12_nominalSpeed_24 ?_
      refine lv_lmul hx hb dX12_nominalSpeed_25 ?_
      refine q_ldc2 hC nX12_73 dX12_nominalSpeed_26 ?_
      refine q_SL hC hW (c_X12_down l D cc _ ((LX12_nominalSpeed_6_4 S r x k) * (1000000 + (S.2 10 k))) 1000000 (by decide)) mX12_157 (by decide) rfl hl.1 rfl (Nat.le_of_ble_eq_true rfl) (by decide) dX12_nominalSpeed_29 (fun H locs hW => ?_)
      refine lv_lstore (lv' := [(4, .long (sX12_down ((LX12_nominalSpeed_6_4 S r x k) * (1000000 + (S.2 10 k))) 1000000)), (0, .ref (ad 0)), (1, .int (nI r)), (2, .long x), (6, .int (nI k))]) hx hb dX12_nominalSpeed_32 hl (by decide) rfl (fun ls hl => ?_)
      refine lv_iinc (v := (nI (k + 1))) (lv' := [(6, .int (nI (k + 1))), (4, .long (sX12_down ((LX12_nominalSpeed_6_4 S r x k) * (1000000 + (S.2 10 k))) 1000000)), (0, .ref (ad 0)), (1, .int (nI r)), (2, .long x)]) hx hb dX12_nominalSpeed_34 hl (k := 4) rfl (nq_inc k 1) (by decide) rfl (fun ls hl => ?_)
      refine lv_goto (tgt := 6) hx hb dX12_nominalSpeed_37 (by decide) ?_
      exact ih (k + 1) (by omega) _ _ _ hW (lv_sub hl [2, 3, 4, 1, 0] (by simp only [LX12_nominalSpeed_6_4]; rfl))
  exact loop1 r 0 (by omega) _ _ _ hW (lv_sub hl [2, 3, 4, 1, 0] rfl)
def sX12_speed (S : St) (r : Nat) : Int64 := (if (S.2 11 50) = 0 then 0 else (if r = 0 then (if 0 ≤ ((sX12_nominalSpeed S r (S.2 11 50)) + 0) then ((sX12_nominalSpeed S r (S.2 11 50)) + 0) else 0) else (if 0 ≤ ((sX12_nominalSpeed S r (S.2 11 50)) + (S.2 11 (((8 * r) - 8) + 3))) then ((sX12_nominalSpeed S r (S.2 11 50)) + (S.2 11 (((8 * r) - 8) + 3))) else 0)))
set_option maxHeartbeats 4000000 in
set_option maxRecDepth 100000 in
theorem c_X12_speed (l : Launch) (D : va_G) (cc : Nat → ClassId) (ad : Nat → Nat) (S : St) (r : Nat) (hr : r ≤ 6) : CtL l D cc yX12_speed cX12_speed 4 2 [.ref (ad 0), .int (nI r)] (MW cc ad S) (sX12_speed S r) (MW cc ad S) := by
  refine CtL.of (plainFor_of_name (by decide +kernel)) (Nat.le_of_ble_eq_true rfl) ?_
  intro p e s m args below meth c A Q hC hW hend ls hl
  obtain ⟨⟨hx, hb, hml, hown, hts⟩, hNW⟩ := id hC
  have hl : lv_has ls 4 [(0, .ref (ad 0)), (1, .int (nI r))] := hl
  refine lv_aload_n hx hb dX12_speed_0 rfl (lv_at hl 0 rfl) ?_
  refine q_get hC hW kX12_41 0 (Mg0 cc ad S) (v := .ref (ad 11)) rfl dX12_speed_1 ?_
  refine lv_bipush (v := 50) hx hb dX12_speed_4 (by decide) ?_
  refine q_lald hC hW 11 (Mg11 cc ad S) (v := (S.2 11 50)) 50 rfl (by omega) (by decide) rfl dX12_speed_6 ?_
  refine lv_lconst (v := 0) hx hb dX12_speed_7 rfl ?_
  refine q_jne (tgt := 14) hC dX12_speed_8 dX12_speed_9 (by decide) (fun c_8 => ?_) (fun c_8 => ?_)
  · skip
    refine lv_aload_n hx hb dX12_speed_14 rfl (lv_at hl 0 rfl) ?_
    refine lv_iload_n hx hb dX12_speed_15 rfl (lv_at hl 1 rfl) ?_
    refine lv_aload_n hx hb dX12_speed_16 rfl (lv_at hl 0 rfl) ?_
    refine q_get hC hW kX12_41 0 (Mg0 cc ad S) (v := .ref (ad 11)) rfl dX12_speed_17 ?_
    refine lv_bipush (v := 50) hx hb dX12_speed_20 (by decide) ?_
    refine q_lald hC hW 11 (Mg11 cc ad S) (v := (S.2 11 50)) 50 rfl (by omega) (by decide) rfl dX12_speed_22 ?_
    refine q_VL hC hW (c_X12_nominalSpeed l D cc ad S r (S.2 11 50) (by omega)) mX12_161 0 (Mg0 cc ad S) rfl (by decide) rfl hl.1 rfl (Nat.le_of_ble_eq_true rfl) (by decide) dX12_speed_23 (fun H locs hW => ?_)
    refine lv_iload_n hx hb dX12_speed_26 rfl (lv_at hl 1 rfl) ?_
    refine q_if_ne_n (tgt := 34) hx hb (a := r) rfl (by omega) dX12_speed_27 (by decide) (fun c_27 => ?_) (fun c_27 => ?_)
    · skip
      refine lv_aload_n hx hb dX12_speed_34 rfl (lv_at hl 0 rfl) ?_
      refine q_get hC hW kX12_41 0 (Mg0 cc ad S) (v := .ref (ad 11)) rfl dX12_speed_35 ?_
      refine lv_bipush (v := 8) hx hb dX12_speed_38 (by decide) ?_
      refine lv_iload_n hx hb dX12_speed_40 rfl (lv_at hl 1 rfl) ?_
      refine lv_imul hx hb dX12_speed_41 ?_
      refine q_ri (v := nI (8 * r)) (nq_mul (a := 8) (b := r) rfl rfl) ?_
      refine lv_bipush (v := 8) hx hb dX12_speed_42 (by decide) ?_
      refine lv_isub hx hb dX12_speed_44 ?_
      refine q_ri (v := nI ((8 * r) - 8)) (nq_sub (a := (8 * r)) (b := 8) rfl rfl (by omega)) ?_
      refine lv_iconst (v := 3) hx hb dX12_speed_45 (by decide) ?_
      refine lv_iadd hx hb dX12_speed_46 ?_
      refine q_ri (v := nI (((8 * r) - 8) + 3)) (nq_add (a := ((8 * r) - 8)) (b := 3) rfl rfl) ?_
      refine q_lald hC hW 11 (Mg11 cc ad S) (v := (S.2 11 (((8 * r) - 8) + 3))) (((8 * r) - 8) + 3) rfl (by omega) (by decide) rfl dX12_speed_47 ?_
      refine lv_ladd hx hb dX12_speed_48 ?_
      refine lv_lstore_n (lv' := [(2, .long ((sX12_nominalSpeed S r (S.2 11 50)) + (S.2 11 (((8 * r) - 8) + 3)))), (0, .ref (ad 0)), (1, .int (nI r))]) hx hb dX12_speed_49 rfl hl (by decide) rfl (fun ls hl => ?_)
      refine lv_lload_n hx hb dX12_speed_50 rfl (lv_at hl 0 rfl) ?_
      refine lv_lconst (v := 0) hx hb dX12_speed_51 rfl ?_
      refine q_jge (tgt := 60) hC dX12_speed_52 dX12_speed_53 (by decide) (fun c_52 => ?_) (fun c_52 => ?_)
      · skip
        refine lv_lload_n hx hb dX12_speed_60 rfl (lv_at hl 0 rfl) ?_
        exact hend _ _ _ _ _ _ (by simp only [sX12_speed, if_neg c_8, if_neg c_27, if_pos c_52]) rfl hW dX12_speed_61
      · skip
        refine lv_lconst (v := 0) hx hb dX12_speed_56 rfl ?_
        refine lv_goto (tgt := 61) hx hb dX12_speed_57 (by decide) ?_
        exact hend _ _ _ _ _ _ (by simp only [sX12_speed, if_neg c_8, if_neg c_27, if_neg c_52]) rfl hW dX12_speed_61
    · skip
      refine lv_lconst (v := 0) hx hb dX12_speed_30 rfl ?_
      refine lv_goto (tgt := 48) hx hb dX12_speed_31 (by decide) ?_
      refine lv_ladd hx hb dX12_speed_48 ?_
      refine lv_lstore_n (lv' := [(2, .long ((sX12_nominalSpeed S r (S.2 11 50)) + 0)), (0, .ref (ad 0)), (1, .int (nI r))]) hx hb dX12_speed_49 rfl hl (by decide) rfl (fun ls hl => ?_)
      refine lv_lload_n hx hb dX12_speed_50 rfl (lv_at hl 0 rfl) ?_
      refine lv_lconst (v := 0) hx hb dX12_speed_51 rfl ?_
      refine q_jge (tgt := 60) hC dX12_speed_52 dX12_speed_53 (by decide) (fun c_52 => ?_) (fun c_52 => ?_)
      · skip
        refine lv_lload_n hx hb dX12_speed_60 rfl (lv_at hl 0 rfl) ?_
        exact hend _ _ _ _ _ _ (by simp only [sX12_speed, if_neg c_8, if_pos c_27, if_pos c_52]) rfl hW dX12_speed_61
      · skip
        refine lv_lconst (v := 0) hx hb dX12_speed_56 rfl ?_
        refine lv_goto (tgt := 61) hx hb dX12_speed_57 (by decide) ?_
        exact hend _ _ _ _ _ _ (by simp only [sX12_speed, if_neg c_8, if_pos c_27, if_neg c_52]) rfl hW dX12_speed_61
  · skip
    refine lv_lconst (v := 0) hx hb dX12_speed_12 rfl ?_
    exact hend _ _ _ _ _ _ (by simp only [sX12_speed, if_pos c_8]) rfl hW dX12_speed_13
def LX12_materialTo_5_2 (S : St) (r : Nat) : Nat → Int64
  | 0 => 0
  | k + 1 => ((LX12_materialTo_5_2 S r k) + (S.2 11 (8 * k)))
def sX12_materialTo (S : St) (r : Nat) : Int64 := (LX12_materialTo_5_2 S r r)
set_option maxHeartbeats 4000000 in
set_option maxRecDepth 100000 in
theorem c_X12_materialTo (l : Launch) (D : va_G) (cc : Nat → ClassId) (ad : Nat → Nat) (S : St) (r : Nat) (hr : r ≤ 6) : CtL l D cc yX12_materialTo cX12_materialTo 5 0 [.ref (ad 0), .int (nI r)] (MW cc ad S) (sX12_materialTo S r) (MW cc ad S) := by
  refine CtL.of (plainFor_of_name (by decide +kernel)) (Nat.le_of_ble_eq_true rfl) ?_
  intro p e s m args below meth c A Q hC hW hend ls hl
  obtain ⟨⟨hx, hb, hml, hown, hts⟩, hNW⟩ := id hC
  have hl : lv_has ls 5 [(0, .ref (ad 0)), (1, .int (nI r))] := hl
  refine lv_lconst (v := 0) hx hb dX12_materialTo_0 rfl ?_
  refine lv_lstore_n (lv' := [(2, .long 0), (0, .ref (ad 0)), (1, .int (nI r))]) hx hb dX12_materialTo_1 rfl hl (by decide) rfl (fun ls hl => ?_)
  refine lv_iconst (v := 0) hx hb dX12_materialTo_2 (by decide) ?_
  refine lv_istore (lv' := [(4, .int 0), (2, .long 0), (0, .ref (ad 0)), (1, .int (nI r))]) hx hb dX12_materialTo_3 hl (by decide) rfl (fun ls hl => ?_)
  have loop1 : ∀ (rn k : Nat), k + rn = r → ∀ (H : Heap) (locs : List Loc) (ls : Array Slot), Wd D cc (MW cc ad S) A s.heap H locs s → lv_has ls 5 [(0, .ref (ad 0)), (1, .int (nI r)), (2, .long (LX12_materialTo_5_2 S r k)), (4, .int (nI k))] → W p l e (rmD 0) s m args below meth c H locs 0 0 Q (F0 m 5 ls []) := by
    intro rn
    induction rn with
    | zero =>
      intro k hk H locs ls hW hl
      obtain rfl : r = k := by omega
      refine lv_iload hx hb dX12_materialTo_5 (lv_at hl 3 rfl) ?_
      refine lv_iload_n hx hb dX12_materialTo_7 rfl (lv_at hl 1 rfl) ?_
      refine q_icmp_ge_n (tgt := 32) hx hb (a := r) (b := r) rfl rfl (by omega) (by omega) dX12_materialTo_8 (by decide) (fun c_8 => ?_) (fun c_8 => by exfalso; omega)
      refine lv_lload_n hx hb dX12_materialTo_32 rfl (lv_at hl 2 rfl) ?_
      exact hend _ _ _ _ _ _ (by unfold sX12_materialTo; rfl) rfl hW dX12_materialTo_33
    | succ rn ih =>
      intro k hk H locs ls hW hl
      have hkN : k < r := by omega
      refine lv_iload hx hb dX12_materialTo_5 (lv_at hl 3 rfl) ?_
      refine lv_iload_n hx hb dX12_materialTo_7 rfl (lv_at hl 1 rfl) ?_
      refine q_icmp_ge_n (tgt := 32) hx hb (a := k) (b := r) rfl rfl (by omega) (by omega) dX12_materialTo_8 (by decide) (fun c_8 => by exfalso; omega) (fun c_8 => ?_)
      refine lv_lload_n hx hb dX12_materialTo_11 rfl (lv_at hl 2 rfl) ?_
      refine lv_aload_n hx hb dX12_materialTo_12 rfl (lv_at hl 0 rfl) ?_
      refine q_get hC hW kX12_41 0 (Mg0 cc ad S) (v := .ref (ad 11)) rfl dX12_materialTo_13 ?_
      refine lv_bipush (v := 8) hx hb dX12_materialTo_16 (by decide) ?_
      refine lv_iload hx hb dX12_materialTo_18 (lv_at hl 3 rfl) ?_
      refine lv_imul hx hb dX12_materialTo_20 ?_
      refine q_ri (v := nI (8 * k)) (nq_mul (a := 8) (b := k) rfl rfl) ?_
      refine lv_iconst (v := 0) hx hb dX12_materialTo_21 (by decide) ?_
      refine lv_iadd hx hb dX12_materialTo_22 ?_
      refine q_ri (v := nI (8 * k)) ((nq_add (a := (8 * k)) (b := 0) rfl rfl).trans (congrArg nI (by omega))) ?_
      refine q_lald hC hW 11 (Mg11 cc ad S) (v := (S.2 11 (8 * k))) (8 * k) rfl (by omega) (by decide) rfl dX12_materialTo_23 ?_
      refine lv_ladd hx hb dX12_materialTo_24 ?_
      refine lv_lstore_n (lv' := [(2, .long ((LX12_materialTo_5_2 S r k) + (S.2 11 (8 * k)))), (0, .ref (ad 0)), (1, .int (nI r)), (4, .int (nI k))]) hx hb dX12_materialTo_25 rfl hl (by decide) rfl (fun ls hl => ?_)
      refine lv_iinc (v := (nI (k + 1))) (lv' := [(4, .int (nI (k + 1))), (2, .long ((LX12_materialTo_5_2 S r k) + (S.2 11 (8 * k)))), (0, .ref (ad 0)), (1, .int (nI r))]) hx hb dX12_materialTo_26 hl (k := 3) rfl (nq_inc k 1) (by decide) rfl (fun ls hl => ?_)
      refine lv_goto (tgt := 5) hx hb dX12_materialTo_29 (by decide) ?_
      exact ih (k + 1) (by omega) _ _ _ hW (lv_sub hl [2, 3, 1, 0] (by simp only [LX12_materialTo_5_2]; rfl))
  exact loop1 r 0 (by omega) _ _ _ hW (lv_sub hl [2, 3, 1, 0] rfl)
def sX12_isMarkIn (S : St) (k : Nat) (i : Nat) : Int32 := (if ((S.2 11 61) - (S.2 15 k)) < (sX12_materialTo S i) then 0 else (if (sX12_materialTo S (i + 1)) ≤ ((S.2 11 61) - (S.2 15 k)) then 0 else 1))
set_option maxHeartbeats 4000000 in
set_option maxRecDepth 100000 in
theorem c_X12_isMarkIn (l : Launch) (D : va_G) (cc : Nat → ClassId) (ad : Nat → Nat) (S : St) (k : Nat) (i : Nat) (hk : k < 512) (hi : i < 6) : CtI l D cc yX12_isMarkIn cX12_isMarkIn 5 .boolean 1 [.ref (ad 0), .int (nI k), .int (nI i)] (MW cc ad S) (sX12_isMarkIn S k i) (MW cc ad S) := by
  refine CtI.of (plainFor_of_name (by decide +kernel)) (by unfold sX12_isMarkIn; repeat' (first | rfl | split)) (Nat.le_of_ble_eq_true rfl) ?_
  intro p e s m args below meth c A Q hC hW hend ls hl
  obtain ⟨⟨hx, hb, hml, hown, hts⟩, hNW⟩ := id hC
  have hl : lv_has ls 5 [(0, .ref (ad 0)), (1, .int (nI k)), (2, .int (nI i))] := hl
  refine lv_aload_n hx hb dX12_isMarkIn_0 rfl (lv_at hl 0 rfl) ?_
  refine q_get hC hW kX12_41 0 (Mg0 cc ad S) (v := .ref (ad 11)) rfl dX12_isMarkIn_1 ?_
  refine lv_bipush (v := 61) hx hb dX12_isMarkIn_4 (by decide) ?_
  refine q_lald hC hW 11 (Mg11 cc ad S) (v := (S.2 11 61)) 61 rfl (by omega) (by decide) rfl dX12_isMarkIn_6 ?_
  refine lv_aload_n hx hb dX12_isMarkIn_7 rfl (lv_at hl 0 rfl) ?_
  refine q_get hC hW kX12_53 0 (Mg0 cc ad S) (v := .ref (ad 15)) rfl dX12_isMarkIn_8 ?_
  refine lv_iload_n hx hb dX12_isMarkIn_11 rfl (lv_at hl 1 rfl) ?_
  refine q_lald hC hW 15 (Mg15 cc ad S) (v := (S.2 15 k)) k rfl (by omega) (by decide) rfl dX12_isMarkIn_12 ?_
  refine lv_lsub hx hb dX12_isMarkIn_13 ?_
  refine lv_lstore_n (lv' := [(3, .long ((S.2 11 61) - (S.2 15 k))), (0, .ref (ad 0)), (1, .int (nI k)), (2, .int (nI i))]) hx hb dX12_isMarkIn_14 rfl hl (by decide) rfl (fun ls hl => ?_)
  refine lv_lload_n hx hb dX12_isMarkIn_15 rfl (lv_at hl 0 rfl) ?_
  refine lv_aload_n hx hb dX12_isMarkIn_16 rfl (lv_at hl 1 rfl) ?_
  refine lv_iload_n hx hb dX12_isMarkIn_17 rfl (lv_at hl 3 rfl) ?_
  refine q_VL hC hW (c_X12_materialTo l D cc ad S i (by omega)) mX12_165 0 (Mg0 cc ad S) rfl (by decide) rfl hl.1 rfl (Nat.le_of_ble_eq_true rfl) (by decide) dX12_isMarkIn_18 (fun H locs hW => ?_)
  refine q_jlt (tgt := 41) hC dX12_isMarkIn_21 dX12_isMarkIn_22 (by decide) (fun c_21 => ?_) (fun c_21 => ?_)
  · skip
    refine lv_iconst (v := 0) hx hb dX12_isMarkIn_41 (by decide) ?_
    exact hend _ _ _ _ _ _ (by simp only [sX12_isMarkIn, if_pos c_21]) rfl hW dX12_isMarkIn_42
  · skip
    refine lv_lload_n hx hb dX12_isMarkIn_25 rfl (lv_at hl 0 rfl) ?_
    refine lv_aload_n hx hb dX12_isMarkIn_26 rfl (lv_at hl 1 rfl) ?_
    refine lv_iload_n hx hb dX12_isMarkIn_27 rfl (lv_at hl 3 rfl) ?_
    refine lv_iconst (v := 1) hx hb dX12_isMarkIn_28 (by decide) ?_
    refine lv_iadd hx hb dX12_isMarkIn_29 ?_
    refine q_ri (v := nI (i + 1)) (nq_add (a := i) (b := 1) rfl rfl) ?_
    refine q_VL hC hW (c_X12_materialTo l D cc ad S (i + 1) (by omega)) mX12_165 0 (Mg0 cc ad S) rfl (by decide) rfl hl.1 rfl (Nat.le_of_ble_eq_true rfl) (by decide) dX12_isMarkIn_30 (fun H locs hW => ?_)
    refine q_jge (tgt := 41) hC dX12_isMarkIn_33 dX12_isMarkIn_34 (by decide) (fun c_33 => ?_) (fun c_33 => ?_)
    · skip
      refine lv_iconst (v := 0) hx hb dX12_isMarkIn_41 (by decide) ?_
      exact hend _ _ _ _ _ _ (by simp only [sX12_isMarkIn, if_neg c_21, if_pos c_33]) rfl hW dX12_isMarkIn_42
    · skip
      refine lv_iconst (v := 1) hx hb dX12_isMarkIn_37 (by decide) ?_
      refine lv_goto (tgt := 42) hx hb dX12_isMarkIn_38 (by decide) ?_
      exact hend _ _ _ _ _ _ (by simp only [sX12_isMarkIn, if_neg c_21, if_neg c_33]) rfl hW dX12_isMarkIn_42
def LX12_marksIn_4_2 (S : St) (i : Nat) (mc : Nat) : Nat → Int32
  | 0 => 0
  | k + 1 => (if (sX12_isMarkIn S k i) = 0 then ((LX12_marksIn_4_2 S i mc k) + 0) else ((LX12_marksIn_4_2 S i mc k) + 1))
def sX12_marksIn (S : St) (i : Nat) (mc : Nat) : Int32 := (LX12_marksIn_4_2 S i mc mc)
set_option maxHeartbeats 4000000 in
set_option maxRecDepth 100000 in
theorem c_X12_marksIn (l : Launch) (D : va_G) (cc : Nat → ClassId) (ad : Nat → Nat) (S : St) (i : Nat) (mc : Nat) (hm : S.2 11 62 = lN mc) (hm5 : mc ≤ 512) (hi : i < 6) : CtI l D cc yX12_marksIn cX12_marksIn 4 .int 2 [.ref (ad 0), .int (nI i)] (MW cc ad S) (sX12_marksIn S i mc) (MW cc ad S) := by
  refine CtI.of (plainFor_of_name (by decide +kernel)) rfl (Nat.le_of_ble_eq_true rfl) ?_
  intro p e s m args below meth c A Q hC hW hend ls hl
  obtain ⟨⟨hx, hb, hml, hown, hts⟩, hNW⟩ := id hC
  have hl : lv_has ls 4 [(0, .ref (ad 0)), (1, .int (nI i))] := hl
  refine lv_iconst (v := 0) hx hb dX12_marksIn_0 (by decide) ?_
  refine lv_istore_n (lv' := [(2, .int 0), (0, .ref (ad 0)), (1, .int (nI i))]) hx hb dX12_marksIn_1 rfl hl (by decide) rfl (fun ls hl => ?_)
  refine lv_iconst (v := 0) hx hb dX12_marksIn_2 (by decide) ?_
  refine lv_istore_n (lv' := [(3, .int 0), (2, .int 0), (0, .ref (ad 0)), (1, .int (nI i))]) hx hb dX12_marksIn_3 rfl hl (by decide) rfl (fun ls hl => ?_)
  have loop1 : ∀ (rn k : Nat), k + rn = mc → ∀ (H : Heap) (locs : List Loc) (ls : Array Slot), Wd D cc (MW cc ad S) A s.heap H locs s → lv_has ls 4 [(0, .ref (ad 0)), (1, .int (nI i)), (2, .int (LX12_marksIn_4_2 S i mc k)), (3, .int (nI k))] → W p l e (rmD 2) s m args below meth c H locs 0 0 Q (F0 m 4 ls []) := by
    intro rn
    induction rn with
    | zero =>
      intro k hk H locs ls hW hl
      obtain rfl : mc = k := by omega
      refine lv_iload_n hx hb dX12_marksIn_4 rfl (lv_at hl 3 rfl) ?_
      refine lv_i2l (v := lN mc) hx hb dX12_marksIn_5 (nI_l (by omega)) ?_
      refine lv_aload_n hx hb dX12_marksIn_6 rfl (lv_at hl 0 rfl) ?_
      refine q_get hC hW kX12_41 0 (Mg0 cc ad S) (v := .ref (ad 11)) rfl dX12_marksIn_7 ?_
      refine lv_bipush (v := 62) hx hb dX12_marksIn_10 (by decide) ?_
      refine q_lald hC hW 11 (Mg11 cc ad S) (v := (lN mc)) 62 rfl (by omega) (by decide) hm dX12_marksIn_12 ?_
      refine q_jge_n (tgt := 40) hC (a := mc) (b2 := mc) rfl rfl (by omega) (by omega) dX12_marksIn_13 dX12_marksIn_14 (by decide) (fun c_13 => ?_) (fun c_13 => by exfalso; omega)
      refine lv_iload_n hx hb dX12_marksIn_40 rfl (lv_at hl 2 rfl) ?_
      exact hend _ _ _ _ _ _ (by unfold sX12_marksIn; rfl) rfl hW dX12_marksIn_41
    | succ rn ih =>
      intro k hk H locs ls hW hl
      have hkN : k < mc := by omega
      refine lv_iload_n hx hb dX12_marksIn_4 rfl (lv_at hl 3 rfl) ?_
      refine lv_i2l (v := lN k) hx hb dX12_marksIn_5 (nI_l (by omega)) ?_
      refine lv_aload_n hx hb dX12_marksIn_6 rfl (lv_at hl 0 rfl) ?_
      refine q_get hC hW kX12_41 0 (Mg0 cc ad S) (v := .ref (ad 11)) rfl dX12_marksIn_7 ?_
      refine lv_bipush (v := 62) hx hb dX12_marksIn_10 (by decide) ?_
      refine q_lald hC hW 11 (Mg11 cc ad S) (v := (lN mc)) 62 rfl (by omega) (by decide) hm dX12_marksIn_12 ?_
      refine q_jge_n (tgt := 40) hC (a := k) (b2 := mc) rfl rfl (by omega) (by omega) dX12_marksIn_13 dX12_marksIn_14 (by decide) (fun c_13 => by exfalso; omega) (fun c_13 => ?_)
      refine lv_iload_n hx hb dX12_marksIn_17 rfl (lv_at hl 2 rfl) ?_
      refine lv_aload_n hx hb dX12_marksIn_18 rfl (lv_at hl 0 rfl) ?_
      refine lv_iload_n hx hb dX12_marksIn_19 rfl (lv_at hl 3 rfl) ?_
      refine lv_iload_n hx hb dX12_marksIn_20 rfl (lv_at hl 1 rfl) ?_
      refine q_VI hC hW (c_X12_isMarkIn l D cc ad S k i (by omega) (by omega)) mX12_168 0 (Mg0 cc ad S) rfl (by decide) rfl hl.1 rfl (Nat.le_of_ble_eq_true rfl) (by decide) dX12_marksIn_21 (fun H locs hW => ?_)
      refine lv_if_eq (tgt := 31) hx hb dX12_marksIn_24 (by decide) (fun c_24 => ?_) (fun c_24 => ?_)
      · skip
        refine lv_iconst (v := 0) hx hb dX12_marksIn_31 (by decide) ?_
        refine lv_iadd hx hb dX12_marksIn_32 ?_
        refine lv_istore_n (lv' := [(2, .int ((LX12_marksIn_4_2 S i mc k) + 0)), (0, .ref (ad 0)), (1, .int (nI i)), (3, .int (nI k))]) hx hb dX12_marksIn_33 rfl hl (by decide) rfl (fun ls hl => ?_)
        refine lv_iinc (v := (nI (k + 1))) (lv' := [(3, .int (nI (k + 1))), (2, .int ((LX12_marksIn_4_2 S i mc k) + 0)), (0, .ref (ad 0)), (1, .int (nI i))]) hx hb dX12_marksIn_34 hl (k := 3) rfl (nq_inc k 1) (by decide) rfl (fun ls hl => ?_)
        refine lv_goto (tgt := 4) hx hb dX12_marksIn_37 (by decide) ?_
        exact ih (k + 1) (by omega) _ _ _ hW (lv_sub hl [2, 3, 1, 0] (by simp only [LX12_marksIn_4_2, if_pos c_24]; rfl))
      · skip
        refine lv_iconst (v := 1) hx hb dX12_marksIn_27 (by decide) ?_
        refine lv_goto (tgt := 32) hx hb dX12_marksIn_28 (by decide) ?_
        refine lv_iadd hx hb dX12_marksIn_32 ?_
        refine lv_istore_n (lv' := [(2, .int ((LX12_marksIn_4_2 S i mc k) + 1)), (0, .ref (ad 0)), (1, .int (nI i)), (3, .int (nI k))]) hx hb dX12_marksIn_33 rfl hl (by decide) rfl (fun ls hl => ?_)
        refine lv_iinc (v := (nI (k + 1))) (lv' := [(3, .int (nI (k + 1))), (2, .int ((LX12_marksIn_4_2 S i mc k) + 1)), (0, .ref (ad 0)), (1, .int (nI i))]) hx hb dX12_marksIn_34 hl (k := 3) rfl (nq_inc k 1) (by decide) rfl (fun ls hl => ?_)
        refine lv_goto (tgt := 4) hx hb dX12_marksIn_37 (by decide) ?_
        exact ih (k + 1) (by omega) _ _ _ hW (lv_sub hl [2, 3, 1, 0] (by simp only [LX12_marksIn_4_2, if_neg c_24]; rfl))
  exact loop1 mc 0 (by omega) _ _ _ hW (lv_sub hl [2, 3, 1, 0] rfl)
def LX12_append_33_S (S : St) (x : Int32) (n : Nat) : Nat → St
  | 0 => (sJ (sI (sJ S 1 n (x.toInt64)) 1 n 0) 10 n 0)
  | k + 1 => (sJ (LX12_append_33_S S x n k) 11 (8 * n + k) 0)
theorem L1_append (S : St) (x : Int32) (n k : Nat) : (LX12_append_33_S S x n k).1 0 0 = S.1 0 0 := by
  induction k with
  | zero => rfl
  | succ k ih => exact ih
def sX12_append_S (S : St) (x : Int32) (n : Nat) : St := (sI (sJ (LX12_append_33_S S x n 8) 11 (8 * n) (x.toInt64)) 0 0 (nI (n + 1)))
set_option maxHeartbeats 4000000 in
set_option maxRecDepth 100000 in
theorem c_X12_append (l : Launch) (D : va_G) (cc : Nat → ClassId) (ad : Nat → Nat) (S : St) (x : Int32) (n : Nat) (hn : S.1 0 0 = nI n) (hn6 : n < 6) : CtV l D cc yX12_append cX12_append 3 0 [.ref (ad 0), .int x] (MW cc ad S) (MW cc ad (sX12_append_S S x n)) := by
  refine CtV.of (plainFor_of_name (by decide +kernel)) (Nat.le_of_ble_eq_true rfl) ?_
  intro p e s m args below meth c A Q hC hW hend ls hl
  obtain ⟨⟨hx, hb, hml, hown, hts⟩, hNW⟩ := id hC
  have hl : lv_has ls 3 [(0, .ref (ad 0)), (1, .int x)] := hl
  refine lv_aload_n hx hb dX12_append_0 rfl (lv_at hl 0 rfl) ?_
  refine q_get hC hW kX12_7 0 (Mg0 cc ad S) (v := .ref (ad 1)) rfl dX12_append_1 ?_
  refine lv_aload_n hx hb dX12_append_4 rfl (lv_at hl 0 rfl) ?_
  refine q_get hC hW kX12_69 0 (Mg0 cc ad S) (v := .int (nI n)) (congrArg (fun z => some (Value.int z)) hn) dX12_append_5 ?_
  refine lv_iload_n hx hb dX12_append_8 rfl (lv_at hl 1 rfl) ?_
  refine lv_i2l hx hb dX12_append_9 rfl ?_
  refine q_last hC hW 1 (Mg1 cc ad S) n rfl (by omega) (by decide) (Ms1 cc ad S n (x.toInt64)) dX12_append_10 (fun H locs hW => ?_)
  refine lv_aload_n hx hb dX12_append_11 rfl (lv_at hl 0 rfl) ?_
  refine q_get hC hW kX12_13 0 (Mg0 cc ad (sJ S 1 n (x.toInt64))) (v := .ref (ad 2)) rfl dX12_append_12 ?_
  refine lv_aload_n hx hb dX12_append_15 rfl (lv_at hl 0 rfl) ?_
  refine q_get hC hW kX12_69 0 (Mg0 cc ad (sJ S 1 n (x.toInt64))) (v := .int (nI n)) (congrArg (fun z => some (Value.int z)) hn) dX12_append_16 ?_
  refine lv_iconst (v := 0) hx hb dX12_append_19 (by decide) ?_
  refine q_iast hC hW 2 (Mg2 cc ad (sJ S 1 n (x.toInt64))) n rfl (by omega) (by decide) (Ms2 cc ad (sJ S 1 n (x.toInt64)) n 0) dX12_append_20 (fun H locs hW => ?_)
  refine lv_aload_n hx hb dX12_append_21 rfl (lv_at hl 0 rfl) ?_
  refine q_get hC hW kX12_38 0 (Mg0 cc ad (sI (sJ S 1 n (x.toInt64)) 1 n 0)) (v := .ref (ad 10)) rfl dX12_append_22 ?_
  refine lv_aload_n hx hb dX12_append_25 rfl (lv_at hl 0 rfl) ?_
  refine q_get hC hW kX12_69 0 (Mg0 cc ad (sI (sJ S 1 n (x.toInt64)) 1 n 0)) (v := .int (nI n)) (congrArg (fun z => some (Value.int z)) hn) dX12_append_26 ?_
  refine lv_lconst (v := 0) hx hb dX12_append_29 rfl ?_
  refine q_last hC hW 10 (Mg10 cc ad (sI (sJ S 1 n (x.toInt64)) 1 n 0)) n rfl (by omega) (by decide) (Ms10 cc ad (sI (sJ S 1 n (x.toInt64)) 1 n 0) n 0) dX12_append_30 (fun H locs hW => ?_)
  refine lv_iconst (v := 0) hx hb dX12_append_31 (by decide) ?_
  refine lv_istore_n (lv' := [(2, .int 0), (0, .ref (ad 0)), (1, .int x)]) hx hb dX12_append_32 rfl hl (by decide) rfl (fun ls hl => ?_)
  have loop1 : ∀ (rn k : Nat), k + rn = 8 → ∀ (H : Heap) (locs : List Loc) (ls : Array Slot), Wd D cc (MW cc ad (LX12_append_33_S S x n k)) A s.heap H locs s → lv_has ls 3 [(0, .ref (ad 0)), (1, .int x), (2, .int (nI k))] → W p l e (rmD 0) s m args below meth c H locs 0 0 Q (F0 m 33 ls []) := by
    intro rn
    induction rn with
    | zero =>
      intro k hk H locs ls hW hl
      obtain rfl : 8 = k := by omega
      refine lv_iload_n hx hb dX12_append_33 rfl (lv_at hl 2 rfl) ?_
      refine lv_bipush (v := 8) hx hb dX12_append_34 (by decide) ?_
      refine q_icmp_ge_n (tgt := 60) hx hb (a := 8) (b := 8) rfl rfl (by omega) (by omega) dX12_append_36 (by decide) (fun c_36 => ?_) (fun c_36 => by exfalso; omega)
      refine lv_aload_n hx hb dX12_append_60 rfl (lv_at hl 0 rfl) ?_
      refine q_get hC hW kX12_41 0 (Mg0 cc ad (LX12_append_33_S S x n 8)) (v := .ref (ad 11)) rfl dX12_append_61 ?_
      refine lv_bipush (v := 8) hx hb dX12_append_64 (by decide) ?_
      refine lv_aload_n hx hb dX12_append_66 rfl (lv_at hl 0 rfl) ?_
      refine q_get hC hW kX12_69 0 (Mg0 cc ad (LX12_append_33_S S x n 8)) (v := .int (nI n)) (congrArg (fun z => some (Value.int z)) (((L1_append  S x n 8)).trans hn)) dX12_append_67 ?_
      refine lv_imul hx hb dX12_append_70 ?_
      refine q_ri (v := nI (8 * n)) (nq_mul (a := 8) (b := n) rfl rfl) ?_
      refine lv_iconst (v := 0) hx hb dX12_append_71 (by decide) ?_
      refine lv_iadd hx hb dX12_append_72 ?_
      refine q_ri (v := nI (8 * n)) ((nq_add (a := (8 * n)) (b := 0) rfl rfl).trans (congrArg nI (by omega))) ?_
      refine lv_iload_n hx hb dX12_append_73 rfl (lv_at hl 1 rfl) ?_
      refine lv_i2l hx hb dX12_append_74 rfl ?_
      refine q_last hC hW 11 (Mg11 cc ad (LX12_append_33_S S x n 8)) (8 * n) rfl (by omega) (by decide) (Ms11 cc ad (LX12_append_33_S S x n 8) (8 * n) (x.toInt64)) dX12_append_75 (fun H locs hW => ?_)
      refine lv_aload_n hx hb dX12_append_76 rfl (lv_at hl 0 rfl) ?_
      refine lv_dup hx hb dX12_append_77 rfl ?_
      refine q_get hC hW kX12_69 0 (Mg0 cc ad (sJ (LX12_append_33_S S x n 8) 11 (8 * n) (x.toInt64))) (v := .int (nI n)) (congrArg (fun z => some (Value.int z)) (((L1_append  S x n 8)).trans hn)) dX12_append_78 ?_
      refine lv_iconst (v := 1) hx hb dX12_append_81 (by decide) ?_
      refine lv_iadd hx hb dX12_append_82 ?_
      refine q_ri (v := nI (n + 1)) (nq_add (a := n) (b := 1) rfl rfl) ?_
      refine q_putI hC hW kX12_69 0 (Mg0 cc ad (sJ (LX12_append_33_S S x n 8) 11 (8 * n) (x.toInt64))) (Ms0_0 cc ad (sJ (LX12_append_33_S S x n 8) 11 (8 * n) (x.toInt64)) (nI (n + 1))) (Nat.le_of_ble_eq_true rfl) dX12_append_83 (fun H locs hW => ?_)
      exact hend _ _ _ _ _ (by unfold sX12_append_S; rfl) hW dX12_append_86
    | succ rn ih =>
      intro k hk H locs ls hW hl
      have hkN : k < 8 := by omega
      refine lv_iload_n hx hb dX12_append_33 rfl (lv_at hl 2 rfl) ?_
      refine lv_bipush (v := 8) hx hb dX12_append_34 (by decide) ?_
      refine q_icmp_ge_n (tgt := 60) hx hb (a := k) (b := 8) rfl rfl (by omega) (by omega) dX12_append_36 (by decide) (fun c_36 => by exfalso; omega) (fun c_36 => ?_)
      refine lv_aload_n hx hb dX12_append_39 rfl (lv_at hl 0 rfl) ?_
      refine q_get hC hW kX12_41 0 (Mg0 cc ad (LX12_append_33_S S x n k)) (v := .ref (ad 11)) rfl dX12_append_40 ?_
      refine lv_bipush (v := 8) hx hb dX12_append_43 (by decide) ?_
      refine lv_aload_n hx hb dX12_append_45 rfl (lv_at hl 0 rfl) ?_
      refine q_get hC hW kX12_69 0 (Mg0 cc ad (LX12_append_33_S S x n k)) (v := .int (nI n)) (congrArg (fun z => some (Value.int z)) (((L1_append  S x n k)).trans hn)) dX12_append_46 ?_
      refine lv_imul hx hb dX12_append_49 ?_
      refine q_ri (v := nI (8 * n)) (nq_mul (a := 8) (b := n) rfl rfl) ?_
      refine lv_iload_n hx hb dX12_append_50 rfl (lv_at hl 2 rfl) ?_
      refine lv_iadd hx hb dX12_append_51 ?_
      refine q_ri (v := nI (8 * n + k)) ((nq_add (a := (8 * n)) (b := k) rfl rfl).trans (congrArg nI (by omega))) ?_
      refine lv_lconst (v := 0) hx hb dX12_append_52 rfl ?_
      refine q_last hC hW 11 (Mg11 cc ad (LX12_append_33_S S x n k)) (8 * n + k) rfl (by omega) (by decide) (Ms11 cc ad (LX12_append_33_S S x n k) (8 * n + k) 0) dX12_append_53 (fun H locs hW => ?_)
      refine lv_iinc (v := (nI (k + 1))) (lv' := [(2, .int (nI (k + 1))), (0, .ref (ad 0)), (1, .int x)]) hx hb dX12_append_54 hl (k := 2) rfl (nq_inc k 1) (by decide) rfl (fun ls hl => ?_)
      refine lv_goto (tgt := 33) hx hb dX12_append_57 (by decide) ?_
      exact ih (k + 1) (by omega) _ _ _ (by simp only [LX12_append_33_S]; exact hW) (lv_sub hl [1, 2, 0] rfl)
  exact loop1 8 0 (by omega) _ _ _ hW (lv_sub hl [1, 2, 0] rfl)
def LX12_begin_2_S (S : St) (x : Int32) : Nat → St
  | 0 => S
  | k + 1 => (sJ (LX12_begin_2_S S x k) 11 k 0)
def sX12_begin_S (S : St) (x : Int32) : St := (sX12_append_S (sJ (sJ (sJ (sJ (sJ (sJ (sJ (sJ (sJ (sI (LX12_begin_2_S S x 64) 0 0 0) 0 0 1000000) 0 1 0) 0 2 1000000) 0 3 500) 0 4 0) 0 5 100) 0 6 1000) 0 7 0) 0 8 1000000000) x 0)
set_option maxHeartbeats 4000000 in
set_option maxRecDepth 100000 in
theorem c_X12_begin (l : Launch) (D : va_G) (cc : Nat → ClassId) (ad : Nat → Nat) (S : St) (x : Int32) : CtV l D cc yX12_begin cX12_begin 3 1 [.ref (ad 0), .int x] (MW cc ad S) (MW cc ad (sX12_begin_S S x)) := by
  refine CtV.of (plainFor_of_name (by decide +kernel)) (Nat.le_of_ble_eq_true rfl) ?_
  intro p e s m args below meth c A Q hC hW hend ls hl
  obtain ⟨⟨hx, hb, hml, hown, hts⟩, hNW⟩ := id hC
  have hl : lv_has ls 3 [(0, .ref (ad 0)), (1, .int x)] := hl
  refine lv_iconst (v := 0) hx hb dX12_begin_0 (by decide) ?_
  refine lv_istore_n (lv' := [(2, .int 0), (0, .ref (ad 0)), (1, .int x)]) hx hb dX12_begin_1 rfl hl (by decide) rfl (fun ls hl => ?_)
  have loop1 : ∀ (rn k : Nat), k + rn = 64 → ∀ (H : Heap) (locs : List Loc) (ls : Array Slot), Wd D cc (MW cc ad (LX12_begin_2_S S x k)) A s.heap H locs s → lv_has ls 3 [(0, .ref (ad 0)), (1, .int x), (2, .int (nI k))] → W p l e (rmD 1) s m args below meth c H locs 0 0 Q (F0 m 2 ls []) := by
    intro rn
    induction rn with
    | zero =>
      intro k hk H locs ls hW hl
      obtain rfl : 64 = k := by omega
      refine lv_iload_n hx hb dX12_begin_2 rfl (lv_at hl 2 rfl) ?_
      refine lv_bipush (v := 64) hx hb dX12_begin_3 (by decide) ?_
      refine q_icmp_ge_n (tgt := 21) hx hb (a := 64) (b := 64) rfl rfl (by omega) (by omega) dX12_begin_5 (by decide) (fun c_5 => ?_) (fun c_5 => by exfalso; omega)
      refine lv_aload_n hx hb dX12_begin_21 rfl (lv_at hl 0 rfl) ?_
      refine lv_iconst (v := 0) hx hb dX12_begin_22 (by decide) ?_
      refine q_putI hC hW kX12_69 0 (Mg0 cc ad (LX12_begin_2_S S x 64)) (Ms0_0 cc ad (LX12_begin_2_S S x 64) 0) (Nat.le_of_ble_eq_true rfl) dX12_begin_23 (fun H locs hW => ?_)
      refine lv_aload_n hx hb dX12_begin_26 rfl (lv_at hl 0 rfl) ?_
      refine q_ldc2 hC nX12_73 dX12_begin_27 ?_
      refine q_putL hC hW kX12_75 0 (Mg0 cc ad (sI (LX12_begin_2_S S x 64) 0 0 0)) (Ms0_11 cc ad (sI (LX12_begin_2_S S x 64) 0 0 0) 1000000) (Nat.le_of_ble_eq_true rfl) dX12_begin_30 (fun H locs hW => ?_)
      refine lv_aload_n hx hb dX12_begin_33 rfl (lv_at hl 0 rfl) ?_
      refine lv_lconst (v := 0) hx hb dX12_begin_34 rfl ?_
      refine q_putL hC hW kX12_79 0 (Mg0 cc ad (sJ (sI (LX12_begin_2_S S x 64) 0 0 0) 0 0 1000000)) (Ms0_12 cc ad (sJ (sI (LX12_begin_2_S S x 64) 0 0 0) 0 0 1000000) 0) (Nat.le_of_ble_eq_true rfl) dX12_begin_35 (fun H locs hW => ?_)
      refine lv_aload_n hx hb dX12_begin_38 rfl (lv_at hl 0 rfl) ?_
      refine q_ldc2 hC nX12_73 dX12_begin_39 ?_
      refine q_putL hC hW kX12_82 0 (Mg0 cc ad (sJ (sJ (sI (LX12_begin_2_S S x 64) 0 0 0) 0 0 1000000) 0 1 0)) (Ms0_13 cc ad (sJ (sJ (sI (LX12_begin_2_S S x 64) 0 0 0) 0 0 1000000) 0 1 0) 1000000) (Nat.le_of_ble_eq_true rfl) dX12_begin_42 (fun H locs hW => ?_)
      refine lv_aload_n hx hb dX12_begin_45 rfl (lv_at hl 0 rfl) ?_
      refine q_ldc2 hC nX12_85 dX12_begin_46 ?_
      refine q_putL hC hW kX12_87 0 (Mg0 cc ad (sJ (sJ (sJ (sI (LX12_begin_2_S S x 64) 0 0 0) 0 0 1000000) 0 1 0) 0 2 1000000)) (Ms0_14 cc ad (sJ (sJ (sJ (sI (LX12_begin_2_S S x 64) 0 0 0) 0 0 1000000) 0 1 0) 0 2 1000000) 500) (Nat.le_of_ble_eq_true rfl) dX12_begin_49 (fun H locs hW => ?_)
      refine lv_aload_n hx hb dX12_begin_52 rfl (lv_at hl 0 rfl) ?_
      refine lv_lconst (v := 0) hx hb dX12_begin_53 rfl ?_
      refine q_putL hC hW kX12_90 0 (Mg0 cc ad (sJ (sJ (sJ (sJ (sI (LX12_begin_2_S S x 64) 0 0 0) 0 0 1000000) 0 1 0) 0 2 1000000) 0 3 500)) (Ms0_15 cc ad (sJ (sJ (sJ (sJ (sI (LX12_begin_2_S S x 64) 0 0 0) 0 0 1000000) 0 1 0) 0 2 1000000) 0 3 500) 0) (Nat.le_of_ble_eq_true rfl) dX12_begin_54 (fun H locs hW => ?_)
      refine lv_aload_n hx hb dX12_begin_57 rfl (lv_at hl 0 rfl) ?_
      refine q_ldc2 hC nX12_93 dX12_begin_58 ?_
      refine q_putL hC hW kX12_95 0 (Mg0 cc ad (sJ (sJ (sJ (sJ (sJ (sI (LX12_begin_2_S S x 64) 0 0 0) 0 0 1000000) 0 1 0) 0 2 1000000) 0 3 500) 0 4 0)) (Ms0_16 cc ad (sJ (sJ (sJ (sJ (sJ (sI (LX12_begin_2_S S x 64) 0 0 0) 0 0 1000000) 0 1 0) 0 2 1000000) 0 3 500) 0 4 0) 100) (Nat.le_of_ble_eq_true rfl) dX12_begin_61 (fun H locs hW => ?_)
      refine lv_aload_n hx hb dX12_begin_64 rfl (lv_at hl 0 rfl) ?_
      refine q_ldc2 hC nX12_98 dX12_begin_65 ?_
      refine q_putL hC hW kX12_100 0 (Mg0 cc ad (sJ (sJ (sJ (sJ (sJ (sJ (sI (LX12_begin_2_S S x 64) 0 0 0) 0 0 1000000) 0 1 0) 0 2 1000000) 0 3 500) 0 4 0) 0 5 100)) (Ms0_17 cc ad (sJ (sJ (sJ (sJ (sJ (sJ (sI (LX12_begin_2_S S x 64) 0 0 0) 0 0 1000000) 0 1 0) 0 2 1000000) 0 3 500) 0 4 0) 0 5 100) 1000) (Nat.le_of_ble_eq_true rfl) dX12_begin_68 (fun H locs hW => ?_)
      refine lv_aload_n hx hb dX12_begin_71 rfl (lv_at hl 0 rfl) ?_
      refine lv_lconst (v := 0) hx hb dX12_begin_72 rfl ?_
      refine q_putL hC hW kX12_103 0 (Mg0 cc ad (sJ (sJ (sJ (sJ (sJ (sJ (sJ (sI (LX12_begin_2_S S x 64) 0 0 0) 0 0 1000000) 0 1 0) 0 2 1000000) 0 3 500) 0 4 0) 0 5 100) 0 6 1000)) (Ms0_18 cc ad (sJ (sJ (sJ (sJ (sJ (sJ (sJ (sI (LX12_begin_2_S S x 64) 0 0 0) 0 0 1000000) 0 1 0) 0 2 1000000) 0 3 500) 0 4 0) 0 5 100) 0 6 1000) 0) (Nat.le_of_ble_eq_true rfl) dX12_begin_73 (fun H locs hW => ?_)
      refine lv_aload_n hx hb dX12_begin_76 rfl (lv_at hl 0 rfl) ?_
      refine q_ldc2 hC nX12_106 dX12_begin_77 ?_
      refine q_putL hC hW kX12_108 0 (Mg0 cc ad (sJ (sJ (sJ (sJ (sJ (sJ (sJ (sJ (sI (LX12_begin_2_S S x 64) 0 0 0) 0 0 1000000) 0 1 0) 0 2 1000000) 0 3 500) 0 4 0) 0 5 100) 0 6 1000) 0 7 0)) (Ms0_19 cc ad (sJ (sJ (sJ (sJ (sJ (sJ (sJ (sJ (sI (LX12_begin_2_S S x 64) 0 0 0) 0 0 1000000) 0 1 0) 0 2 1000000) 0 3 500) 0 4 0) 0 5 100) 0 6 1000) 0 7 0) 1000000000) (Nat.le_of_ble_eq_true rfl) dX12_begin_80 (fun H locs hW => ?_)
      refine lv_aload_n hx hb dX12_begin_83 rfl (lv_at hl 0 rfl) ?_
      refine lv_iload_n hx hb dX12_begin_84 rfl (lv_at hl 1 rfl) ?_
      refine q_VV hC hW (c_X12_append l D cc ad (sJ (sJ (sJ (sJ (sJ (sJ (sJ (sJ (sJ (sI (LX12_begin_2_S S x 64) 0 0 0) 0 0 1000000) 0 1 0) 0 2 1000000) 0 3 500) 0 4 0) 0 5 100) 0 6 1000) 0 7 0) 0 8 1000000000) x 0 rfl (by omega)) mX12_111 0 (Mg0 cc ad (sJ (sJ (sJ (sJ (sJ (sJ (sJ (sJ (sJ (sI (LX12_begin_2_S S x 64) 0 0 0) 0 0 1000000) 0 1 0) 0 2 1000000) 0 3 500) 0 4 0) 0 5 100) 0 6 1000) 0 7 0) 0 8 1000000000)) rfl (by decide) rfl hl.1 rfl (Nat.le_of_ble_eq_true rfl) (by decide) dX12_begin_85 (fun H locs hW => ?_)
      exact hend _ _ _ _ _ (by unfold sX12_begin_S; rfl) hW dX12_begin_88
    | succ rn ih =>
      intro k hk H locs ls hW hl
      have hkN : k < 64 := by omega
      refine lv_iload_n hx hb dX12_begin_2 rfl (lv_at hl 2 rfl) ?_
      refine lv_bipush (v := 64) hx hb dX12_begin_3 (by decide) ?_
      refine q_icmp_ge_n (tgt := 21) hx hb (a := k) (b := 64) rfl rfl (by omega) (by omega) dX12_begin_5 (by decide) (fun c_5 => by exfalso; omega) (fun c_5 => ?_)
      refine lv_aload_n hx hb dX12_begin_8 rfl (lv_at hl 0 rfl) ?_
      refine q_get hC hW kX12_41 0 (Mg0 cc ad (LX12_begin_2_S S x k)) (v := .ref (ad 11)) rfl dX12_begin_9 ?_
      refine lv_iload_n hx hb dX12_begin_12 rfl (lv_at hl 2 rfl) ?_
      refine lv_lconst (v := 0) hx hb dX12_begin_13 rfl ?_
      refine q_last hC hW 11 (Mg11 cc ad (LX12_begin_2_S S x k)) k rfl (by omega) (by decide) (Ms11 cc ad (LX12_begin_2_S S x k) k 0) dX12_begin_14 (fun H locs hW => ?_)
      refine lv_iinc (v := (nI (k + 1))) (lv' := [(2, .int (nI (k + 1))), (0, .ref (ad 0)), (1, .int x)]) hx hb dX12_begin_15 hl (k := 2) rfl (nq_inc k 1) (by decide) rfl (fun ls hl => ?_)
      refine lv_goto (tgt := 2) hx hb dX12_begin_18 (by decide) ?_
      exact ih (k + 1) (by omega) _ _ _ (by simp only [LX12_begin_2_S]; exact hW) (lv_sub hl [1, 2, 0] rfl)
  exact loop1 64 0 (by omega) _ _ _ hW (lv_sub hl [1, 2, 0] rfl)
def sX12_hurry_S (S : St)  : St := (if (S.2 0 7) < (S.2 11 51) then (sJ S 11 50 ((S.2 11 50) + (sX12_kept ((S.2 0 4) - (S.2 11 50)) (-(S.2 0 5)) (S.2 0 5)))) else (if (S.2 11 52) ≤ 0 then (sJ S 11 50 ((S.2 11 50) + (sX12_kept ((S.2 0 4) - (S.2 11 50)) (-(S.2 0 5)) (S.2 0 5)))) else (if (S.2 0 4) ≤ (S.2 0 6) then (sJ S 11 50 ((S.2 11 50) + (sX12_kept ((S.2 0 4) - (S.2 11 50)) (-(S.2 0 5)) (S.2 0 5)))) else (sJ S 11 50 ((S.2 11 50) + (sX12_kept ((S.2 0 6) - (S.2 11 50)) (-(S.2 0 5)) (S.2 0 5)))))))
set_option maxHeartbeats 4000000 in
set_option maxRecDepth 100000 in
theorem c_X12_hurry (l : Launch) (D : va_G) (cc : Nat → ClassId) (ad : Nat → Nat) (S : St) : CtV l D cc yX12_hurry cX12_hurry 4 1 [.ref (ad 0)] (MW cc ad S) (MW cc ad (sX12_hurry_S S )) := by
  refine CtV.of (plainFor_of_name (by decide +kernel)) (Nat.le_of_ble_eq_true rfl) ?_
  intro p e s m args below meth c A Q hC hW hend ls hl
  obtain ⟨⟨hx, hb, hml, hown, hts⟩, hNW⟩ := id hC
  have hl : lv_has ls 4 [(0, .ref (ad 0))] := hl
  refine lv_aload_n hx hb dX12_hurry_0 rfl (lv_at hl 0 rfl) ?_
  refine q_get hC hW kX12_41 0 (Mg0 cc ad S) (v := .ref (ad 11)) rfl dX12_hurry_1 ?_
  refine lv_bipush (v := 51) hx hb dX12_hurry_4 (by decide) ?_
  refine q_lald hC hW 11 (Mg11 cc ad S) (v := (S.2 11 51)) 51 rfl (by omega) (by decide) rfl dX12_hurry_6 ?_
  refine lv_aload_n hx hb dX12_hurry_7 rfl (lv_at hl 0 rfl) ?_
  refine q_get hC hW kX12_103 0 (Mg0 cc ad S) (v := .long (S.2 0 7)) rfl dX12_hurry_8 ?_
  refine q_jgt (tgt := 31) hC dX12_hurry_11 dX12_hurry_12 (by decide) (fun c_11 => ?_) (fun c_11 => ?_)
  · skip
    refine lv_iconst (v := 0) hx hb dX12_hurry_31 (by decide) ?_
    refine lv_istore_n (lv' := [(1, .int 0), (0, .ref (ad 0))]) hx hb dX12_hurry_32 rfl hl (by decide) rfl (fun ls hl => ?_)
    refine lv_iload_n hx hb dX12_hurry_33 rfl (lv_at hl 0 rfl) ?_
    refine lv_if_eq (tgt := 56) hx hb dX12_hurry_34 (by decide) (fun c_34 => ?_) (fun c_34 => by exfalso; revert c_34; decide)
    refine lv_aload_n hx hb dX12_hurry_56 rfl (lv_at hl 1 rfl) ?_
    refine q_get hC hW kX12_90 0 (Mg0 cc ad S) (v := .long (S.2 0 4)) rfl dX12_hurry_57 ?_
    refine lv_lstore_n (lv' := [(2, .long (S.2 0 4)), (1, .int 0), (0, .ref (ad 0))]) hx hb dX12_hurry_60 rfl hl (by decide) rfl (fun ls hl => ?_)
    refine lv_aload_n hx hb dX12_hurry_61 rfl (lv_at hl 2 rfl) ?_
    refine q_get hC hW kX12_41 0 (Mg0 cc ad S) (v := .ref (ad 11)) rfl dX12_hurry_62 ?_
    refine lv_bipush (v := 50) hx hb dX12_hurry_65 (by decide) ?_
    refine lv_dup2_11 hx hb dX12_hurry_67 rfl rfl ?_
    refine q_lald hC hW 11 (Mg11 cc ad S) (v := (S.2 11 50)) 50 rfl (by omega) (by decide) rfl dX12_hurry_68 ?_
    refine lv_lload_n hx hb dX12_hurry_69 rfl (lv_at hl 0 rfl) ?_
    refine lv_aload_n hx hb dX12_hurry_70 rfl (lv_at hl 2 rfl) ?_
    refine q_get hC hW kX12_41 0 (Mg0 cc ad S) (v := .ref (ad 11)) rfl dX12_hurry_71 ?_
    refine lv_bipush (v := 50) hx hb dX12_hurry_74 (by decide) ?_
    refine q_lald hC hW 11 (Mg11 cc ad S) (v := (S.2 11 50)) 50 rfl (by omega) (by decide) rfl dX12_hurry_76 ?_
    refine lv_lsub hx hb dX12_hurry_77 ?_
    refine lv_aload_n hx hb dX12_hurry_78 rfl (lv_at hl 2 rfl) ?_
    refine q_get hC hW kX12_95 0 (Mg0 cc ad S) (v := .long (S.2 0 5)) rfl dX12_hurry_79 ?_
    refine lv_lneg hx hb dX12_hurry_82 ?_
    refine lv_aload_n hx hb dX12_hurry_83 rfl (lv_at hl 2 rfl) ?_
    refine q_get hC hW kX12_95 0 (Mg0 cc ad S) (v := .long (S.2 0 5)) rfl dX12_hurry_84 ?_
    refine q_SL hC hW (c_X12_kept l D cc _ ((S.2 0 4) - (S.2 11 50)) (-(S.2 0 5)) (S.2 0 5)) mX12_176 (by decide) rfl hl.1 rfl (Nat.le_of_ble_eq_true rfl) (by decide) dX12_hurry_87 (fun H locs hW => ?_)
    refine lv_ladd hx hb dX12_hurry_90 ?_
    refine q_last hC hW 11 (Mg11 cc ad S) 50 rfl (by omega) (by decide) (Ms11 cc ad S 50 ((S.2 11 50) + (sX12_kept ((S.2 0 4) - (S.2 11 50)) (-(S.2 0 5)) (S.2 0 5)))) dX12_hurry_91 (fun H locs hW => ?_)
    exact hend _ _ _ _ _ (by simp only [sX12_hurry_S, if_pos c_11]) hW dX12_hurry_92
  · skip
    refine lv_aload_n hx hb dX12_hurry_15 rfl (lv_at hl 0 rfl) ?_
    refine q_get hC hW kX12_41 0 (Mg0 cc ad S) (v := .ref (ad 11)) rfl dX12_hurry_16 ?_
    refine lv_bipush (v := 52) hx hb dX12_hurry_19 (by decide) ?_
    refine q_lald hC hW 11 (Mg11 cc ad S) (v := (S.2 11 52)) 52 rfl (by omega) (by decide) rfl dX12_hurry_21 ?_
    refine lv_lconst (v := 0) hx hb dX12_hurry_22 rfl ?_
    refine q_jle (tgt := 31) hC dX12_hurry_23 dX12_hurry_24 (by decide) (fun c_23 => ?_) (fun c_23 => ?_)
    · skip
      refine lv_iconst (v := 0) hx hb dX12_hurry_31 (by decide) ?_
      refine lv_istore_n (lv' := [(1, .int 0), (0, .ref (ad 0))]) hx hb dX12_hurry_32 rfl hl (by decide) rfl (fun ls hl => ?_)
      refine lv_iload_n hx hb dX12_hurry_33 rfl (lv_at hl 0 rfl) ?_
      refine lv_if_eq (tgt := 56) hx hb dX12_hurry_34 (by decide) (fun c_34 => ?_) (fun c_34 => by exfalso; revert c_34; decide)
      refine lv_aload_n hx hb dX12_hurry_56 rfl (lv_at hl 1 rfl) ?_
      refine q_get hC hW kX12_90 0 (Mg0 cc ad S) (v := .long (S.2 0 4)) rfl dX12_hurry_57 ?_
      refine lv_lstore_n (lv' := [(2, .long (S.2 0 4)), (1, .int 0), (0, .ref (ad 0))]) hx hb dX12_hurry_60 rfl hl (by decide) rfl (fun ls hl => ?_)
      refine lv_aload_n hx hb dX12_hurry_61 rfl (lv_at hl 2 rfl) ?_
      refine q_get hC hW kX12_41 0 (Mg0 cc ad S) (v := .ref (ad 11)) rfl dX12_hurry_62 ?_
      refine lv_bipush (v := 50) hx hb dX12_hurry_65 (by decide) ?_
      refine lv_dup2_11 hx hb dX12_hurry_67 rfl rfl ?_
      refine q_lald hC hW 11 (Mg11 cc ad S) (v := (S.2 11 50)) 50 rfl (by omega) (by decide) rfl dX12_hurry_68 ?_
      refine lv_lload_n hx hb dX12_hurry_69 rfl (lv_at hl 0 rfl) ?_
      refine lv_aload_n hx hb dX12_hurry_70 rfl (lv_at hl 2 rfl) ?_
      refine q_get hC hW kX12_41 0 (Mg0 cc ad S) (v := .ref (ad 11)) rfl dX12_hurry_71 ?_
      refine lv_bipush (v := 50) hx hb dX12_hurry_74 (by decide) ?_
      refine q_lald hC hW 11 (Mg11 cc ad S) (v := (S.2 11 50)) 50 rfl (by omega) (by decide) rfl dX12_hurry_76 ?_
      refine lv_lsub hx hb dX12_hurry_77 ?_
      refine lv_aload_n hx hb dX12_hurry_78 rfl (lv_at hl 2 rfl) ?_
      refine q_get hC hW kX12_95 0 (Mg0 cc ad S) (v := .long (S.2 0 5)) rfl dX12_hurry_79 ?_
      refine lv_lneg hx hb dX12_hurry_82 ?_
      refine lv_aload_n hx hb dX12_hurry_83 rfl (lv_at hl 2 rfl) ?_
      refine q_get hC hW kX12_95 0 (Mg0 cc ad S) (v := .long (S.2 0 5)) rfl dX12_hurry_84 ?_
      refine q_SL hC hW (c_X12_kept l D cc _ ((S.2 0 4) - (S.2 11 50)) (-(S.2 0 5)) (S.2 0 5)) mX12_176 (by decide) rfl hl.1 rfl (Nat.le_of_ble_eq_true rfl) (by decide) dX12_hurry_87 (fun H locs hW => ?_)
      refine lv_ladd hx hb dX12_hurry_90 ?_
      refine q_last hC hW 11 (Mg11 cc ad S) 50 rfl (by omega) (by decide) (Ms11 cc ad S 50 ((S.2 11 50) + (sX12_kept ((S.2 0 4) - (S.2 11 50)) (-(S.2 0 5)) (S.2 0 5)))) dX12_hurry_91 (fun H locs hW => ?_)
      exact hend _ _ _ _ _ (by simp only [sX12_hurry_S, if_neg c_11, if_pos c_23]) hW dX12_hurry_92
    · skip
      refine lv_iconst (v := 1) hx hb dX12_hurry_27 (by decide) ?_
      refine lv_goto (tgt := 32) hx hb dX12_hurry_28 (by decide) ?_
      refine lv_istore_n (lv' := [(1, .int 1), (0, .ref (ad 0))]) hx hb dX12_hurry_32 rfl hl (by decide) rfl (fun ls hl => ?_)
      refine lv_iload_n hx hb dX12_hurry_33 rfl (lv_at hl 0 rfl) ?_
      refine lv_if_eq (tgt := 56) hx hb dX12_hurry_34 (by decide) (fun c_34 => by exfalso; revert c_34; decide) (fun c_34 => ?_)
      refine lv_aload_n hx hb dX12_hurry_37 rfl (lv_at hl 1 rfl) ?_
      refine q_get hC hW kX12_100 0 (Mg0 cc ad S) (v := .long (S.2 0 6)) rfl dX12_hurry_38 ?_
      refine lv_aload_n hx hb dX12_hurry_41 rfl (lv_at hl 1 rfl) ?_
      refine q_get hC hW kX12_90 0 (Mg0 cc ad S) (v := .long (S.2 0 4)) rfl dX12_hurry_42 ?_
      refine q_jge (tgt := 56) hC dX12_hurry_45 dX12_hurry_46 (by decide) (fun c_45 => ?_) (fun c_45 => ?_)
      · skip
        refine lv_aload_n hx hb dX12_hurry_56 rfl (lv_at hl 1 rfl) ?_
        refine q_get hC hW kX12_90 0 (Mg0 cc ad S) (v := .long (S.2 0 4)) rfl dX12_hurry_57 ?_
        refine lv_lstore_n (lv' := [(2, .long (S.2 0 4)), (1, .int 1), (0, .ref (ad 0))]) hx hb dX12_hurry_60 rfl hl (by decide) rfl (fun ls hl => ?_)
        refine lv_aload_n hx hb dX12_hurry_61 rfl (lv_at hl 2 rfl) ?_
        refine q_get hC hW kX12_41 0 (Mg0 cc ad S) (v := .ref (ad 11)) rfl dX12_hurry_62 ?_
        refine lv_bipush (v := 50) hx hb dX12_hurry_65 (by decide) ?_
        refine lv_dup2_11 hx hb dX12_hurry_67 rfl rfl ?_
        refine q_lald hC hW 11 (Mg11 cc ad S) (v := (S.2 11 50)) 50 rfl (by omega) (by decide) rfl dX12_hurry_68 ?_
        refine lv_lload_n hx hb dX12_hurry_69 rfl (lv_at hl 0 rfl) ?_
        refine lv_aload_n hx hb dX12_hurry_70 rfl (lv_at hl 2 rfl) ?_
        refine q_get hC hW kX12_41 0 (Mg0 cc ad S) (v := .ref (ad 11)) rfl dX12_hurry_71 ?_
        refine lv_bipush (v := 50) hx hb dX12_hurry_74 (by decide) ?_
        refine q_lald hC hW 11 (Mg11 cc ad S) (v := (S.2 11 50)) 50 rfl (by omega) (by decide) rfl dX12_hurry_76 ?_
        refine lv_lsub hx hb dX12_hurry_77 ?_
        refine lv_aload_n hx hb dX12_hurry_78 rfl (lv_at hl 2 rfl) ?_
        refine q_get hC hW kX12_95 0 (Mg0 cc ad S) (v := .long (S.2 0 5)) rfl dX12_hurry_79 ?_
        refine lv_lneg hx hb dX12_hurry_82 ?_
        refine lv_aload_n hx hb dX12_hurry_83 rfl (lv_at hl 2 rfl) ?_
        refine q_get hC hW kX12_95 0 (Mg0 cc ad S) (v := .long (S.2 0 5)) rfl dX12_hurry_84 ?_
        refine q_SL hC hW (c_X12_kept l D cc _ ((S.2 0 4) - (S.2 11 50)) (-(S.2 0 5)) (S.2 0 5)) mX12_176 (by decide) rfl hl.1 rfl (Nat.le_of_ble_eq_true rfl) (by decide) dX12_hurry_87 (fun H locs hW => ?_)
        refine lv_ladd hx hb dX12_hurry_90 ?_
        refine q_last hC hW 11 (Mg11 cc ad S) 50 rfl (by omega) (by decide) (Ms11 cc ad S 50 ((S.2 11 50) + (sX12_kept ((S.2 0 4) - (S.2 11 50)) (-(S.2 0 5)) (S.2 0 5)))) dX12_hurry_91 (fun H locs hW => ?_)
        exact hend _ _ _ _ _ (by simp only [sX12_hurry_S, if_neg c_11, if_neg c_23, if_pos c_45]) hW dX12_hurry_92
      · skip
        refine lv_aload_n hx hb dX12_hurry_49 rfl (lv_at hl 1 rfl) ?_
        refine q_get hC hW kX12_100 0 (Mg0 cc ad S) (v := .long (S.2 0 6)) rfl dX12_hurry_50 ?_
        refine lv_goto (tgt := 60) hx hb dX12_hurry_53 (by decide) ?_
        refine lv_lstore_n (lv' := [(2, .long (S.2 0 6)), (1, .int 1), (0, .ref (ad 0))]) hx hb dX12_hurry_60 rfl hl (by decide) rfl (fun ls hl => ?_)
        refine lv_aload_n hx hb dX12_hurry_61 rfl (lv_at hl 2 rfl) ?_
        refine q_get hC hW kX12_41 0 (Mg0 cc ad S) (v := .ref (ad 11)) rfl dX12_hurry_62 ?_
        refine lv_bipush (v := 50) hx hb dX12_hurry_65 (by decide) ?_
        refine lv_dup2_11 hx hb dX12_hurry_67 rfl rfl ?_
        refine q_lald hC hW 11 (Mg11 cc ad S) (v := (S.2 11 50)) 50 rfl (by omega) (by decide) rfl dX12_hurry_68 ?_
        refine lv_lload_n hx hb dX12_hurry_69 rfl (lv_at hl 0 rfl) ?_
        refine lv_aload_n hx hb dX12_hurry_70 rfl (lv_at hl 2 rfl) ?_
        refine q_get hC hW kX12_41 0 (Mg0 cc ad S) (v := .ref (ad 11)) rfl dX12_hurry_71 ?_
        refine lv_bipush (v := 50) hx hb dX12_hurry_74 (by decide) ?_
        refine q_lald hC hW 11 (Mg11 cc ad S) (v := (S.2 11 50)) 50 rfl (by omega) (by decide) rfl dX12_hurry_76 ?_
        refine lv_lsub hx hb dX12_hurry_77 ?_
        refine lv_aload_n hx hb dX12_hurry_78 rfl (lv_at hl 2 rfl) ?_
        refine q_get hC hW kX12_95 0 (Mg0 cc ad S) (v := .long (S.2 0 5)) rfl dX12_hurry_79 ?_
        refine lv_lneg hx hb dX12_hurry_82 ?_
        refine lv_aload_n hx hb dX12_hurry_83 rfl (lv_at hl 2 rfl) ?_
        refine q_get hC hW kX12_95 0 (Mg0 cc ad S) (v := .long (S.2 0 5)) rfl dX12_hurry_84 ?_
        refine q_SL hC hW (c_X12_kept l D cc _ ((S.2 0 6) - (S.2 11 50)) (-(S.2 0 5)) (S.2 0 5)) mX12_176 (by decide) rfl hl.1 rfl (Nat.le_of_ble_eq_true rfl) (by decide) dX12_hurry_87 (fun H locs hW => ?_)
        refine lv_ladd hx hb dX12_hurry_90 ?_
        refine q_last hC hW 11 (Mg11 cc ad S) 50 rfl (by omega) (by decide) (Ms11 cc ad S 50 ((S.2 11 50) + (sX12_kept ((S.2 0 6) - (S.2 11 50)) (-(S.2 0 5)) (S.2 0 5)))) dX12_hurry_91 (fun H locs hW => ?_)
        exact hend _ _ _ _ _ (by simp only [sX12_hurry_S, if_neg c_11, if_neg c_23, if_neg c_45]) hW dX12_hurry_92
