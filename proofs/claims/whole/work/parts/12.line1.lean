def cN (S : St) : Nat := (S.1 0 0).toNatClampNeg
def cQ (S : St) : Nat := (S.1 0 13).toNatClampNeg
def cM (S : St) : Nat := (S.1 0 16).toNatClampNeg
def cO (S : St) : Nat := (S.1 0 17).toNatClampNeg
def cC (S : St) : Nat := (S.1 0 18).toNatClampNeg
def Inv (S : St) : Prop := (S.1 0 0 = nI (cN S) ∧ 1 ≤ cN S ∧ cN S ≤ 6) ∧ (S.1 0 13 = nI (cQ S) ∧ cQ S ≤ 4) ∧ (S.1 0 16 = nI (cM S) ∧ cM S ≤ 512) ∧ (S.1 0 17 = nI (cO S) ∧ cO S < 30) ∧ (S.1 0 18 = nI (cC S) ∧ cC S ≤ 30)
theorem cK {S : St} {a n : Nat} (h : S.1 0 a = nI n) (hn : n ≤ 600) : (S.1 0 a).toNatClampNeg = n := by rw [h, nI_clamp (by omega)]
theorem Inv.of {S : St} {n q mc o c0 : Nat} (h1 : S.1 0 0 = nI n) (h2 : S.1 0 13 = nI q) (h3 : S.1 0 16 = nI mc) (h4 : S.1 0 17 = nI o) (h5 : S.1 0 18 = nI c0) (b : (1 ≤ n ∧ n ≤ 6) ∧ q ≤ 4 ∧ mc ≤ 512 ∧ o < 30 ∧ c0 ≤ 30) : Inv S := by
  have e1 : cN S = n := cK h1 (by omega)
  have e2 : cQ S = q := cK h2 (by omega)
  have e3 : cM S = mc := cK h3 (by omega)
  have e4 : cO S = o := cK h4 (by omega)
  have e5 : cC S = c0 := cK h5 (by omega)
  unfold Inv
  rw [e1, e2, e3, e4, e5]
  exact ⟨⟨h1, b.1⟩, ⟨h2, b.2.1⟩, ⟨h3, b.2.2.1⟩, ⟨h4, b.2.2.2.1⟩, ⟨h5, b.2.2.2.2⟩⟩
def sX2_add_S (S : St) (x : Int32) (y : Int32) (z : Int32) (o : Nat) (c0 : Nat) : St := (if 30 ≤ c0 then (sI (sI (sI (sI S 2 ((o + c0) % 30) x) 3 ((o + c0) % 30) y) 4 ((o + c0) % 30) z) 0 17 (nI ((o + 1) % 30))) else (sI (sI (sI (sI S 2 ((o + c0) % 30) x) 3 ((o + c0) % 30) y) 4 ((o + c0) % 30) z) 0 18 (nI (c0 + 1))))
set_option maxHeartbeats 4000000 in
set_option maxRecDepth 100000 in
theorem c_X2_add (l : Launch) (D : va_G) (cc : Nat → ClassId) (ad : Nat → Nat) (S : St) (x : Int32) (y : Int32) (z : Int32) (o : Nat) (c0 : Nat) (ho : S.1 0 17 = nI o) (hc : S.1 0 18 = nI c0) (ho3 : o < 30) (hc3 : c0 ≤ 30) : CtV l D cc yX2_add cX2_add 5 2 [.ref (ad 8), .int x, .int y, .int z] (LW cc ad S) (LW cc ad (sX2_add_S S x y z o c0)) := by
  refine CtV.of (plainFor_of_name (by decide +kernel)) (Nat.le_of_ble_eq_true rfl) ?_
  intro p e s m args below meth c A Q hC hW hend ls hl
  obtain ⟨⟨hx, hb, hml, hown, hts⟩, hNW⟩ := id hC
  have hl : lv_has ls 5 [(0, .ref (ad 8)), (1, .int x), (2, .int y), (3, .int z)] := hl
  refine lv_aload_n hx hb dX2_add_0 rfl (lv_at hl 0 rfl) ?_
  refine lv_aload_n hx hb dX2_add_1 rfl (lv_at hl 0 rfl) ?_
  refine q_get hC hW kX2_25 8 (Lg8 cc ad S) (v := .int (nI c0)) (congrArg (fun z => some (Value.int z)) hc) dX2_add_2 ?_
  refine q_VI hC hW (c_X2_slotOf l D cc ad S (nI c0)) mX2_34 8 (Lg8 cc ad S) rfl (by decide) rfl hl.1 rfl (Nat.le_of_ble_eq_true rfl) (by decide) dX2_add_5 (fun H locs hW => ?_)
  refine q_ri (v := nI ((o + c0) % 30)) (slot_nat S o c0 ho ho3 hc3) ?_
  refine lv_istore (lv' := [(4, .int (nI ((o + c0) % 30))), (0, .ref (ad 8)), (1, .int x), (2, .int y), (3, .int z)]) hx hb dX2_add_8 hl (by decide) rfl (fun ls hl => ?_)
  refine lv_aload_n hx hb dX2_add_10 rfl (lv_at hl 1 rfl) ?_
  refine q_get hC hW kX2_9 8 (Lg8 cc ad S) (v := .ref (ad 9)) rfl dX2_add_11 ?_
  refine lv_iload hx hb dX2_add_14 (lv_at hl 0 rfl) ?_
  refine lv_iload_n hx hb dX2_add_16 rfl (lv_at hl 2 rfl) ?_
  refine q_iast hC hW 9 (Lg9 cc ad S) ((o + c0) % 30) rfl (Nat.mod_lt _ (by decide)) (by decide) (Ls9 cc ad S ((o + c0) % 30) x) dX2_add_17 (fun H locs hW => ?_)
  refine lv_aload_n hx hb dX2_add_18 rfl (lv_at hl 1 rfl) ?_
  refine q_get hC hW kX2_15 8 (Lg8 cc ad (sI S 2 ((o + c0) % 30) x)) (v := .ref (ad 10)) rfl dX2_add_19 ?_
  refine lv_iload hx hb dX2_add_22 (lv_at hl 0 rfl) ?_
  refine lv_iload_n hx hb dX2_add_24 rfl (lv_at hl 3 rfl) ?_
  refine q_iast hC hW 10 (Lg10 cc ad (sI S 2 ((o + c0) % 30) x)) ((o + c0) % 30) rfl (Nat.mod_lt _ (by decide)) (by decide) (Ls10 cc ad (sI S 2 ((o + c0) % 30) x) ((o + c0) % 30) y) dX2_add_25 (fun H locs hW => ?_)
  refine lv_aload_n hx hb dX2_add_26 rfl (lv_at hl 1 rfl) ?_
  refine q_get hC hW kX2_18 8 (Lg8 cc ad (sI (sI S 2 ((o + c0) % 30) x) 3 ((o + c0) % 30) y)) (v := .ref (ad 11)) rfl dX2_add_27 ?_
  refine lv_iload hx hb dX2_add_30 (lv_at hl 0 rfl) ?_
  refine lv_iload_n hx hb dX2_add_32 rfl (lv_at hl 4 rfl) ?_
  refine q_iast hC hW 11 (Lg11 cc ad (sI (sI S 2 ((o + c0) % 30) x) 3 ((o + c0) % 30) y)) ((o + c0) % 30) rfl (Nat.mod_lt _ (by decide)) (by decide) (Ls11 cc ad (sI (sI S 2 ((o + c0) % 30) x) 3 ((o + c0) % 30) y) ((o + c0) % 30) z) dX2_add_33 (fun H locs hW => ?_)
  refine lv_aload_n hx hb dX2_add_34 rfl (lv_at hl 1 rfl) ?_
  refine q_get hC hW kX2_25 8 (Lg8 cc ad (sI (sI (sI S 2 ((o + c0) % 30) x) 3 ((o + c0) % 30) y) 4 ((o + c0) % 30) z)) (v := .int (nI c0)) (congrArg (fun z => some (Value.int z)) hc) dX2_add_35 ?_
  refine lv_bipush (v := 30) hx hb dX2_add_38 (by decide) ?_
  refine q_icmp_ge_n (tgt := 56) hx hb (a := c0) (b := 30) rfl rfl (by omega) (by omega) dX2_add_40 (by decide) (fun c_40 => ?_) (fun c_40 => ?_)
  · skip
    refine lv_aload_n hx hb dX2_add_56 rfl (lv_at hl 1 rfl) ?_
    refine lv_aload_n hx hb dX2_add_57 rfl (lv_at hl 1 rfl) ?_
    refine lv_iconst (v := 1) hx hb dX2_add_58 (by decide) ?_
    refine q_VI hC hW (c_X2_slotOf l D cc ad (sI (sI (sI S 2 ((o + c0) % 30) x) 3 ((o + c0) % 30) y) 4 ((o + c0) % 30) z) 1) mX2_34 8 (Lg8 cc ad (sI (sI (sI S 2 ((o + c0) % 30) x) 3 ((o + c0) % 30) y) 4 ((o + c0) % 30) z)) rfl (by decide) rfl hl.1 rfl (Nat.le_of_ble_eq_true rfl) (by decide) dX2_add_59 (fun H locs hW => ?_)
    refine q_ri (v := nI ((o + 1) % 30)) (slot_nat (sI (sI (sI S 2 ((o + c0) % 30) x) 3 ((o + c0) % 30) y) 4 ((o + c0) % 30) z) o 1 ho ho3 (by decide)) ?_
    refine q_putI hC hW kX2_21 8 (Lg8 cc ad (sI (sI (sI S 2 ((o + c0) % 30) x) 3 ((o + c0) % 30) y) 4 ((o + c0) % 30) z)) (Ls8_3 cc ad (sI (sI (sI S 2 ((o + c0) % 30) x) 3 ((o + c0) % 30) y) 4 ((o + c0) % 30) z) (nI ((o + 1) % 30))) (Nat.le_of_ble_eq_true rfl) dX2_add_62 (fun H locs hW => ?_)
    exact hend _ _ _ _ _ (by simp only [sX2_add_S, if_pos c_40]) hW dX2_add_65
  · skip
    refine lv_aload_n hx hb dX2_add_43 rfl (lv_at hl 1 rfl) ?_
    refine lv_dup hx hb dX2_add_44 rfl ?_
    refine q_get hC hW kX2_25 8 (Lg8 cc ad (sI (sI (sI S 2 ((o + c0) % 30) x) 3 ((o + c0) % 30) y) 4 ((o + c0) % 30) z)) (v := .int (nI c0)) (congrArg (fun z => some (Value.int z)) hc) dX2_add_45 ?_
    refine lv_iconst (v := 1) hx hb dX2_add_48 (by decide) ?_
    refine lv_iadd hx hb dX2_add_49 ?_
    refine q_ri (v := nI (c0 + 1)) (nq_add (a := c0) (b := 1) rfl rfl) ?_
    refine q_putI hC hW kX2_25 8 (Lg8 cc ad (sI (sI (sI S 2 ((o + c0) % 30) x) 3 ((o + c0) % 30) y) 4 ((o + c0) % 30) z)) (Ls8_4 cc ad (sI (sI (sI S 2 ((o + c0) % 30) x) 3 ((o + c0) % 30) y) 4 ((o + c0) % 30) z) (nI (c0 + 1))) (Nat.le_of_ble_eq_true rfl) dX2_add_50 (fun H locs hW => ?_)
    refine lv_goto (tgt := 65) hx hb dX2_add_53 (by decide) ?_
    exact hend _ _ _ _ _ (by simp only [sX2_add_S, if_neg (Nat.not_le.mpr c_40)]) hW dX2_add_65
theorem n_X2_add (S : St) (x y z : Int32) (o c0 : Nat) : (sX2_add_S S x y z o c0).1 0 0 = S.1 0 0 := by unfold sX2_add_S; split <;> rfl
theorem q_X2_add (S : St) (x y z : Int32) (o c0 : Nat) : (sX2_add_S S x y z o c0).1 0 13 = S.1 0 13 := by unfold sX2_add_S; split <;> rfl
theorem m_X2_add (S : St) (x y z : Int32) (o c0 : Nat) : (sX2_add_S S x y z o c0).1 0 16 = S.1 0 16 := by unfold sX2_add_S; split <;> rfl
theorem inv_X2_add (S : St) (x y z : Int32) (hI : Inv S) : Inv (sX2_add_S S x y z (cO S) (cC S)) := by
  obtain ⟨⟨h1, b1, b2⟩, ⟨h2, b3⟩, ⟨h3, b4⟩, ⟨h4, b5⟩, ⟨h5, b6⟩⟩ := id hI
  unfold sX2_add_S
  split
  · exact Inv.of (o := (cO S + 1) % 30) (c0 := cC S) h1 h2 h3 rfl h5 ⟨⟨b1, b2⟩, b3, b4, Nat.mod_lt _ (by decide), b6⟩
  · exact Inv.of (o := cO S) (c0 := cC S + 1) h1 h2 h3 h4 rfl ⟨⟨b1, b2⟩, b3, b4, b5, by omega⟩
def sX3_hasSpan (S : St) (x : Int32) : Int32 := (if x < 0 then 0 else (if (S.1 0 0) ≤ x then 0 else 1))
set_option maxHeartbeats 4000000 in
set_option maxRecDepth 100000 in
theorem c_X3_hasSpan (l : Launch) (D : va_G) (cc : Nat → ClassId) (ad : Nat → Nat) (S : St) (x : Int32) : CtI l D cc yX3_hasSpan cX3_hasSpan 2 .boolean 0 [.ref (ad 0), .int x] (LW cc ad S) (sX3_hasSpan S x) (LW cc ad S) := by
  refine CtI.of (plainFor_of_name (by decide +kernel)) (by unfold sX3_hasSpan; repeat' (first | rfl | split)) (Nat.le_of_ble_eq_true rfl) ?_
  intro p e s m args below meth c A Q hC hW hend ls hl
  obtain ⟨⟨hx, hb, hml, hown, hts⟩, hNW⟩ := id hC
  have hl : lv_has ls 2 [(0, .ref (ad 0)), (1, .int x)] := hl
  refine lv_iload_n hx hb dX3_hasSpan_0 rfl (lv_at hl 1 rfl) ?_
  refine lv_if_lt (tgt := 16) hx hb dX3_hasSpan_1 (by decide) (fun c_1 => ?_) (fun c_1 => ?_)
  · skip
    refine lv_iconst (v := 0) hx hb dX3_hasSpan_16 (by decide) ?_
    exact hend _ _ _ _ _ _ (by simp only [sX3_hasSpan, if_pos c_1]) rfl hW dX3_hasSpan_17
  · skip
    refine lv_iload_n hx hb dX3_hasSpan_4 rfl (lv_at hl 1 rfl) ?_
    refine lv_aload_n hx hb dX3_hasSpan_5 rfl (lv_at hl 0 rfl) ?_
    refine q_get hC hW kX3_86 0 (Lg0 cc ad S) (v := .int (S.1 0 0)) rfl dX3_hasSpan_6 ?_
    refine lv_icmp_ge (tgt := 16) hx hb dX3_hasSpan_9 (by decide) (fun c_9 => ?_) (fun c_9 => ?_)
    · skip
      refine lv_iconst (v := 0) hx hb dX3_hasSpan_16 (by decide) ?_
      exact hend _ _ _ _ _ _ (by simp only [sX3_hasSpan, if_neg c_1, if_pos c_9]) rfl hW dX3_hasSpan_17
    · skip
      refine lv_iconst (v := 1) hx hb dX3_hasSpan_12 (by decide) ?_
      refine lv_goto (tgt := 17) hx hb dX3_hasSpan_13 (by decide) ?_
      exact hend _ _ _ _ _ _ (by simp only [sX3_hasSpan, if_neg c_1, if_neg c_9]) rfl hW dX3_hasSpan_17
def sX3_hasRoller (S : St) (x : Int32) : Int32 := (if x < 0 then 0 else (if (S.1 0 0) < x then 0 else 1))
set_option maxHeartbeats 4000000 in
set_option maxRecDepth 100000 in
theorem c_X3_hasRoller (l : Launch) (D : va_G) (cc : Nat → ClassId) (ad : Nat → Nat) (S : St) (x : Int32) : CtI l D cc yX3_hasRoller cX3_hasRoller 2 .boolean 0 [.ref (ad 0), .int x] (LW cc ad S) (sX3_hasRoller S x) (LW cc ad S) := by
  refine CtI.of (plainFor_of_name (by decide +kernel)) (by unfold sX3_hasRoller; repeat' (first | rfl | split)) (Nat.le_of_ble_eq_true rfl) ?_
  intro p e s m args below meth c A Q hC hW hend ls hl
  obtain ⟨⟨hx, hb, hml, hown, hts⟩, hNW⟩ := id hC
  have hl : lv_has ls 2 [(0, .ref (ad 0)), (1, .int x)] := hl
  refine lv_iload_n hx hb dX3_hasRoller_0 rfl (lv_at hl 1 rfl) ?_
  refine lv_if_lt (tgt := 16) hx hb dX3_hasRoller_1 (by decide) (fun c_1 => ?_) (fun c_1 => ?_)
  · skip
    refine lv_iconst (v := 0) hx hb dX3_hasRoller_16 (by decide) ?_
    exact hend _ _ _ _ _ _ (by simp only [sX3_hasRoller, if_pos c_1]) rfl hW dX3_hasRoller_17
  · skip
    refine lv_iload_n hx hb dX3_hasRoller_4 rfl (lv_at hl 1 rfl) ?_
    refine lv_aload_n hx hb dX3_hasRoller_5 rfl (lv_at hl 0 rfl) ?_
    refine q_get hC hW kX3_86 0 (Lg0 cc ad S) (v := .int (S.1 0 0)) rfl dX3_hasRoller_6 ?_
    refine lv_icmp_gt (tgt := 16) hx hb dX3_hasRoller_9 (by decide) (fun c_9 => ?_) (fun c_9 => ?_)
    · skip
      refine lv_iconst (v := 0) hx hb dX3_hasRoller_16 (by decide) ?_
      exact hend _ _ _ _ _ _ (by simp only [sX3_hasRoller, if_neg c_1, if_pos c_9]) rfl hW dX3_hasRoller_17
    · skip
      refine lv_iconst (v := 1) hx hb dX3_hasRoller_12 (by decide) ?_
      refine lv_goto (tgt := 17) hx hb dX3_hasRoller_13 (by decide) ?_
      exact hend _ _ _ _ _ _ (by simp only [sX3_hasRoller, if_neg c_1, if_neg c_9]) rfl hW dX3_hasRoller_17
theorem hasSpan_iff (S : St) (x : Int32) : sX3_hasSpan S x = if 0 ≤ x ∧ x < S.1 0 0 then 1 else 0 := by
  unfold sX3_hasSpan
  by_cases h1 : x < 0
  · simp [h1, Int32.not_le.mpr h1]
  · rw [if_neg h1]
    by_cases h2 : S.1 0 0 ≤ x
    · simp [h2, Int32.not_lt.mpr h2]
    · simp [h2, Int32.not_lt.mp h1, Int32.not_le.mp h2]
theorem hasRoller_1 (S : St) (n r : Nat) (h : S.1 0 0 = nI n) (hn : n ≤ 6) (hr : r ≤ n) : sX3_hasRoller S (nI r) = nI 1 := by
  unfold sX3_hasRoller
  rw [h, if_neg (nI_pos (by omega)), if_neg (nI_nlt hr (by omega))]
  rfl
def LX3_nominalSpeed_6_3 (S : St) (r : Nat) (x : Int32) (n : Nat) : Nat → Int64
  | 0 => (x.toInt64)
  | k + 1 => (sX11_drawn (LX3_nominalSpeed_6_3 S r x n k) (S.1 17 (k + 1)))
def sX3_nominalSpeed (S : St) (r : Nat) (x : Int32) (n : Nat) : Int64 := (LX3_nominalSpeed_6_3 S r x n r)
set_option maxHeartbeats 4000000 in
set_option maxRecDepth 100000 in
theorem c_X3_nominalSpeed (l : Launch) (D : va_G) (cc : Nat → ClassId) (ad : Nat → Nat) (S : St) (r : Nat) (x : Int32) (n : Nat) (hn : S.1 0 0 = nI n) (hn6 : n ≤ 6) (hr : r ≤ n) : CtL l D cc yX3_nominalSpeed cX3_nominalSpeed 6 2 [.ref (ad 0), .int (nI r), .int x] (LW cc ad S) (sX3_nominalSpeed S r x n) (LW cc ad S) := by
  refine CtL.of (plainFor_of_name (by decide +kernel)) (Nat.le_of_ble_eq_true rfl) ?_
  intro p e s m args below meth c A Q hC hW hend ls hl
  obtain ⟨⟨hx, hb, hml, hown, hts⟩, hNW⟩ := id hC
  have hl : lv_has ls 6 [(0, .ref (ad 0)), (1, .int (nI r)), (2, .int x)] := hl
  refine lv_iload_n hx hb dX3_nominalSpeed_0 rfl (lv_at hl 2 rfl) ?_
  refine lv_i2l hx hb dX3_nominalSpeed_1 rfl ?_
  refine lv_lstore_n (lv' := [(3, .long (x.toInt64)), (0, .ref (ad 0)), (1, .int (nI r)), (2, .int x)]) hx hb dX3_nominalSpeed_2 rfl hl (by decide) rfl (fun ls hl => ?_)
  refine lv_iconst (v := 1) hx hb dX3_nominalSpeed_3 (by decide) ?_
  refine lv_istore (lv' := [(5, .int 1), (3, .long (x.toInt64)), (0, .ref (ad 0)), (1, .int (nI r)), (2, .int x)]) hx hb dX3_nominalSpeed_4 hl (by decide) rfl (fun ls hl => ?_)
  have loop1 : ∀ (rn k : Nat), k + rn = r → ∀ (H : Heap) (locs : List Loc) (ls : Array Slot), Wd D cc (LW cc ad S) A s.heap H locs s → lv_has ls 6 [(0, .ref (ad 0)), (1, .int (nI r)), (2, .int x), (3, .long (LX3_nominalSpeed_6_3 S r x n k)), (5, .int (nI (k + 1)))] → W p l e (rmD 2) s m args below meth c H locs 0 0 Q (F0 m 6 ls []) := by
    intro rn
    induction rn with
    | zero =>
      intro k hk H locs ls hW hl
      obtain rfl : r = k := by omega
      refine lv_iload hx hb dX3_nominalSpeed_6 (lv_at hl 4 rfl) ?_
      refine lv_iload_n hx hb dX3_nominalSpeed_8 rfl (lv_at hl 1 rfl) ?_
      refine q_icmp_gt_n (tgt := 42) hx hb (a := (r + 1)) (b := r) rfl rfl (by omega) (by omega) dX3_nominalSpeed_9 (by decide) (fun c_9 => ?_) (fun c_9 => by exfalso; omega)
      refine lv_lload_n hx hb dX3_nominalSpeed_42 rfl (lv_at hl 3 rfl) ?_
      exact hend _ _ _ _ _ _ (by unfold sX3_nominalSpeed; rfl) rfl hW dX3_nominalSpeed_43
    | succ rn ih =>
      intro k hk H locs ls hW hl
      have hkN : k < r := by omega
      refine lv_iload hx hb dX3_nominalSpeed_6 (lv_at hl 4 rfl) ?_
      refine lv_iload_n hx hb dX3_nominalSpeed_8 rfl (lv_at hl 1 rfl) ?_
      refine q_icmp_gt_n (tgt := 42) hx hb (a := (k + 1)) (b := r) rfl rfl (by omega) (by omega) dX3_nominalSpeed_9 (by decide) (fun c_9 => by exfalso; omega) (fun c_9 => ?_)
      refine lv_iload hx hb dX3_nominalSpeed_12 (lv_at hl 4 rfl) ?_
      refine lv_aload_n hx hb dX3_nominalSpeed_14 rfl (lv_at hl 0 rfl) ?_
      refine q_get hC hW kX3_86 0 (Lg0 cc ad S) (v := .int (nI n)) (congrArg (fun z => some (Value.int z)) hn) dX3_nominalSpeed_15 ?_
      refine q_icmp_gt_n (tgt := 42) hx hb (a := (k + 1)) (b := n) rfl rfl (by omega) (by omega) dX3_nominalSpeed_18 (by decide) (fun c_18 => by exfalso; omega) (fun c_18 => ?_)
      refine lv_lload_n hx hb dX3_nominalSpeed_21 rfl (lv_at hl 3 rfl) ?_
      refine lv_aload_n hx hb dX3_nominalSpeed_22 rfl (lv_at hl 0 rfl) ?_
      refine q_get hC hW kX3_61 0 (Lg0 cc ad S) (v := .ref (ad 13)) rfl dX3_nominalSpeed_23 ?_
      refine lv_iload hx hb dX3_nominalSpeed_26 (lv_at hl 4 rfl) ?_
      refine q_aald hC hW 13 2 (Lg13 cc ad S) rfl (v := ad (k + 1 + 33)) (k + 1) rfl (by omega) (by decide) rfl dX3_nominalSpeed_28 ?_
      refine q_get hC hW kX3_128 (k + 1 + 33) (Lg_f7 cc ad S (k + 1) (by omega)) (v := .int (S.1 17 (k + 1))) rfl dX3_nominalSpeed_29 ?_
      refine q_SL hC hW (c_X11_drawn l D cc _ (LX3_nominalSpeed_6_3 S r x n k) (S.1 17 (k + 1))) mX3_131 (by decide) rfl hl.1 rfl (Nat.le_of_ble_eq_true rfl) (by decide) dX3_nominalSpeed_32 (fun H locs hW => ?_)
      refine lv_lstore_n (lv' := [(3, .long (sX11_drawn (LX3_nominalSpeed_6_3 S r x n k) (S.1 17 (k + 1)))), (0, .ref (ad 0)), (1, .int (nI r)), (2, .int x), (5, .int (nI (k + 1)))]) hx hb dX3_nominalSpeed_35 rfl hl (by decide) rfl (fun ls hl => ?_)
      refine lv_iinc (v := (nI (k + 2))) (lv' := [(5, .int (nI (k + 2))), (3, .long (sX11_drawn (LX3_nominalSpeed_6_3 S r x n k) (S.1 17 (k + 1)))), (0, .ref (ad 0)), (1, .int (nI r)), (2, .int x)]) hx hb dX3_nominalSpeed_36 hl (k := 4) rfl (nq_inc (k + 1) 1) (by decide) rfl (fun ls hl => ?_)
      refine lv_goto (tgt := 6) hx hb dX3_nominalSpeed_39 (by decide) ?_
      exact ih (k + 1) (by omega) _ _ _ hW (lv_sub hl [2, 3, 4, 1, 0] (by simp only [LX3_nominalSpeed_6_3]; rfl))
  exact loop1 r 0 (by omega) _ _ _ hW (lv_sub hl [2, 3, 4, 1, 0] rfl)
def sX3_speedOf (S : St) (r : Nat) (n : Nat) : Int64 := (if (S.1 0 8) = 0 then 0 else (sJ9_max_f86c9 0 ((sX3_nominalSpeed S r (S.1 0 8) n) + ((S.1 18 r).toInt64))))
set_option maxHeartbeats 4000000 in
set_option maxRecDepth 100000 in
theorem c_X3_speedOf (l : Launch) (D : va_G) (cc : Nat → ClassId) (ad : Nat → Nat) (S : St) (r : Nat) (n : Nat) (hn : S.1 0 0 = nI n) (hn6 : n ≤ 6) (hr : r ≤ n) : CtL l D cc yX3_speedOf cX3_speedOf 2 3 [.ref (ad 0), .int (nI r)] (LW cc ad S) (sX3_speedOf S r n) (LW cc ad S) := by
  refine CtL.of (plainFor_of_name (by decide +kernel)) (Nat.le_of_ble_eq_true rfl) ?_
  intro p e s m args below meth c A Q hC hW hend ls hl
  obtain ⟨⟨hx, hb, hml, hown, hts⟩, hNW⟩ := id hC
  have hl : lv_has ls 2 [(0, .ref (ad 0)), (1, .int (nI r))] := hl
  refine lv_aload_n hx hb dX3_speedOf_0 rfl (lv_at hl 0 rfl) ?_
  refine q_get hC hW kX3_21 0 (Lg0 cc ad S) (v := .ref (ad 2)) rfl dX3_speedOf_1 ?_
  refine q_get hC hW kX3_135 2 (Lg2 cc ad S) (v := .int (S.1 0 8)) rfl dX3_speedOf_4 ?_
  refine lv_if_eq (tgt := 18) hx hb dX3_speedOf_7 (by decide) (fun c_7 => ?_) (fun c_7 => ?_)
  · skip
    refine lv_lconst (v := 0) hx hb dX3_speedOf_18 rfl ?_
    exact hend _ _ _ _ _ _ (by simp only [sX3_speedOf, if_pos c_7]) rfl hW dX3_speedOf_19
  · skip
    refine lv_aload_n hx hb dX3_speedOf_10 rfl (lv_at hl 0 rfl) ?_
    refine lv_iload_n hx hb dX3_speedOf_11 rfl (lv_at hl 1 rfl) ?_
    refine q_VI hC hW (c_X3_hasRoller l D cc ad S (nI r)) mX3_138 0 (Lg0 cc ad S) rfl (by decide) rfl hl.1 rfl (Nat.le_of_ble_eq_true rfl) (by decide) dX3_speedOf_12 (fun H locs hW => ?_)
    refine q_ri (v := nI 1) (hasRoller_1 S n r hn hn6 hr) ?_
    refine q_if_ne_n (tgt := 20) hx hb (a := 1) rfl (by omega) dX3_speedOf_15 (by decide) (fun c_15 => ?_) (fun c_15 => by exfalso; omega)
    refine lv_lconst (v := 0) hx hb dX3_speedOf_20 rfl ?_
    refine lv_aload_n hx hb dX3_speedOf_21 rfl (lv_at hl 0 rfl) ?_
    refine lv_iload_n hx hb dX3_speedOf_22 rfl (lv_at hl 1 rfl) ?_
    refine lv_aload_n hx hb dX3_speedOf_23 rfl (lv_at hl 0 rfl) ?_
    refine q_get hC hW kX3_21 0 (Lg0 cc ad S) (v := .ref (ad 2)) rfl dX3_speedOf_24 ?_
    refine q_get hC hW kX3_135 2 (Lg2 cc ad S) (v := .int (S.1 0 8)) rfl dX3_speedOf_27 ?_
    refine q_VL hC hW (c_X3_nominalSpeed l D cc ad S r (S.1 0 8) n hn (by omega) (by omega)) mX3_142 0 (Lg0 cc ad S) rfl (by decide) rfl hl.1 rfl (Nat.le_of_ble_eq_true rfl) (by decide) dX3_speedOf_30 (fun H locs hW => ?_)
    refine lv_aload_n hx hb dX3_speedOf_33 rfl (lv_at hl 0 rfl) ?_
    refine q_get hC hW kX3_61 0 (Lg0 cc ad S) (v := .ref (ad 13)) rfl dX3_speedOf_34 ?_
    refine lv_iload_n hx hb dX3_speedOf_37 rfl (lv_at hl 1 rfl) ?_
    refine q_aald hC hW 13 2 (Lg13 cc ad S) rfl (v := ad (r + 33)) r rfl (by omega) (by decide) rfl dX3_speedOf_38 ?_
    refine q_get hC hW kX3_146 (r + 33) (Lg_f7 cc ad S r (by omega)) (v := .int (S.1 18 r)) rfl dX3_speedOf_39 ?_
    refine lv_i2l hx hb dX3_speedOf_42 rfl ?_
    refine lv_ladd hx hb dX3_speedOf_43 ?_
    refine q_SL hC hW (c_J9_max_f86c9 l D cc _ 0 ((sX3_nominalSpeed S r (S.1 0 8) n) + ((S.1 18 r).toInt64))) mX3_149 (by decide) rfl hl.1 rfl (Nat.le_of_ble_eq_true rfl) (by decide) dX3_speedOf_44 (fun H locs hW => ?_)
    exact hend _ _ _ _ _ _ (by simp only [sX3_speedOf, if_neg c_7]) rfl hW dX3_speedOf_47
def LX3_placeAtRoller_13_2 (S : St) (r : Nat) (n : Nat) : Nat → Int64
  | 0 => (S.2 5 0)
  | k + 1 => ((LX3_placeAtRoller_13_2 S r n k) - (S.2 3 k))
def sX3_placeAtRoller (S : St) (r : Nat) (n : Nat) : Int64 := (LX3_placeAtRoller_13_2 S r n r)
set_option maxHeartbeats 4000000 in
set_option maxRecDepth 100000 in
theorem c_X3_placeAtRoller (l : Launch) (D : va_G) (cc : Nat → ClassId) (ad : Nat → Nat) (S : St) (r : Nat) (n : Nat) (hn : S.1 0 0 = nI n) (hn6 : n ≤ 6) (hr : r ≤ n) : CtL l D cc yX3_placeAtRoller cX3_placeAtRoller 5 0 [.ref (ad 0), .int (nI r)] (LW cc ad S) (sX3_placeAtRoller S r n) (LW cc ad S) := by
  refine CtL.of (plainFor_of_name (by decide +kernel)) (Nat.le_of_ble_eq_true rfl) ?_
  intro p e s m args below meth c A Q hC hW hend ls hl
  obtain ⟨⟨hx, hb, hml, hown, hts⟩, hNW⟩ := id hC
  have hl : lv_has ls 5 [(0, .ref (ad 0)), (1, .int (nI r))] := hl
  refine lv_aload_n hx hb dX3_placeAtRoller_0 rfl (lv_at hl 0 rfl) ?_
  refine q_get hC hW kX3_61 0 (Lg0 cc ad S) (v := .ref (ad 13)) rfl dX3_placeAtRoller_1 ?_
  refine lv_iconst (v := 0) hx hb dX3_placeAtRoller_4 (by decide) ?_
  refine q_aald hC hW 13 2 (Lg13 cc ad S) rfl (v := ad (0 + 33)) 0 rfl (by omega) (by decide) rfl dX3_placeAtRoller_5 ?_
  refine q_get hC hW kX3_155 (0 + 33) (Lg_f7 cc ad S 0 (by omega)) (v := .long (S.2 5 0)) rfl dX3_placeAtRoller_6 ?_
  refine lv_lstore_n (lv' := [(2, .long (S.2 5 0)), (0, .ref (ad 0)), (1, .int (nI r))]) hx hb dX3_placeAtRoller_9 rfl hl (by decide) rfl (fun ls hl => ?_)
  refine lv_iconst (v := 0) hx hb dX3_placeAtRoller_10 (by decide) ?_
  refine lv_istore (lv' := [(4, .int 0), (2, .long (S.2 5 0)), (0, .ref (ad 0)), (1, .int (nI r))]) hx hb dX3_placeAtRoller_11 hl (by decide) rfl (fun ls hl => ?_)
  have loop1 : ∀ (rn k : Nat), k + rn = r → ∀ (H : Heap) (locs : List Loc) (ls : Array Slot), Wd D cc (LW cc ad S) A s.heap H locs s → lv_has ls 5 [(0, .ref (ad 0)), (1, .int (nI r)), (2, .long (LX3_placeAtRoller_13_2 S r n k)), (4, .int (nI k))] → W p l e (rmD 0) s m args below meth c H locs 0 0 Q (F0 m 13 ls []) := by
    intro rn
    induction rn with
    | zero =>
      intro k hk H locs ls hW hl
      obtain rfl : r = k := by omega
      refine lv_iload hx hb dX3_placeAtRoller_13 (lv_at hl 3 rfl) ?_
      refine lv_iload_n hx hb dX3_placeAtRoller_15 rfl (lv_at hl 1 rfl) ?_
      refine q_icmp_ge_n (tgt := 47) hx hb (a := r) (b := r) rfl rfl (by omega) (by omega) dX3_placeAtRoller_16 (by decide) (fun c_16 => ?_) (fun c_16 => by exfalso; omega)
      refine lv_lload_n hx hb dX3_placeAtRoller_47 rfl (lv_at hl 2 rfl) ?_
      exact hend _ _ _ _ _ _ (by unfold sX3_placeAtRoller; rfl) rfl hW dX3_placeAtRoller_48
    | succ rn ih =>
      intro k hk H locs ls hW hl
      have hkN : k < r := by omega
      refine lv_iload hx hb dX3_placeAtRoller_13 (lv_at hl 3 rfl) ?_
      refine lv_iload_n hx hb dX3_placeAtRoller_15 rfl (lv_at hl 1 rfl) ?_
      refine q_icmp_ge_n (tgt := 47) hx hb (a := k) (b := r) rfl rfl (by omega) (by omega) dX3_placeAtRoller_16 (by decide) (fun c_16 => by exfalso; omega) (fun c_16 => ?_)
      refine lv_iload hx hb dX3_placeAtRoller_19 (lv_at hl 3 rfl) ?_
      refine lv_aload_n hx hb dX3_placeAtRoller_21 rfl (lv_at hl 0 rfl) ?_
      refine q_get hC hW kX3_86 0 (Lg0 cc ad S) (v := .int (nI n)) (congrArg (fun z => some (Value.int z)) hn) dX3_placeAtRoller_22 ?_
      refine q_icmp_ge_n (tgt := 47) hx hb (a := k) (b := n) rfl rfl (by omega) (by omega) dX3_placeAtRoller_25 (by decide) (fun c_25 => by exfalso; omega) (fun c_25 => ?_)
      refine lv_lload_n hx hb dX3_placeAtRoller_28 rfl (lv_at hl 2 rfl) ?_
      refine lv_aload_n hx hb dX3_placeAtRoller_29 rfl (lv_at hl 0 rfl) ?_
      refine q_get hC hW kX3_55 0 (Lg0 cc ad S) (v := .ref (ad 12)) rfl dX3_placeAtRoller_30 ?_
      refine lv_iload hx hb dX3_placeAtRoller_33 (lv_at hl 3 rfl) ?_
      refine q_aald hC hW 12 3 (Lg12 cc ad S) rfl (v := ad (k + 15)) k rfl (by omega) (by decide) rfl dX3_placeAtRoller_35 ?_
      refine q_get hC hW kX3_159 (k + 15) (Lg_f8 cc ad S k (by omega)) (v := .long (S.2 3 k)) rfl dX3_placeAtRoller_36 ?_
      refine lv_lsub hx hb dX3_placeAtRoller_39 ?_
      refine lv_lstore_n (lv' := [(2, .long ((LX3_placeAtRoller_13_2 S r n k) - (S.2 3 k))), (0, .ref (ad 0)), (1, .int (nI r)), (4, .int (nI k))]) hx hb dX3_placeAtRoller_40 rfl hl (by decide) rfl (fun ls hl => ?_)
      refine lv_iinc (v := (nI (k + 1))) (lv' := [(4, .int (nI (k + 1))), (2, .long ((LX3_placeAtRoller_13_2 S r n k) - (S.2 3 k))), (0, .ref (ad 0)), (1, .int (nI r))]) hx hb dX3_placeAtRoller_41 hl (k := 3) rfl (nq_inc k 1) (by decide) rfl (fun ls hl => ?_)
      refine lv_goto (tgt := 13) hx hb dX3_placeAtRoller_44 (by decide) ?_
      exact ih (k + 1) (by omega) _ _ _ hW (lv_sub hl [2, 3, 1, 0] (by simp only [LX3_placeAtRoller_13_2]; rfl))
  exact loop1 r 0 (by omega) _ _ _ hW (lv_sub hl [2, 3, 1, 0] rfl)
def sX3_marksIn (S : St) (i : Nat) (n : Nat) (mc : Nat) : Int32 := (sX5_countBetween S (sX3_placeAtRoller S (i + 1) n) (sX3_placeAtRoller S i n) mc)
set_option maxHeartbeats 4000000 in
set_option maxRecDepth 100000 in
theorem c_X3_marksIn (l : Launch) (D : va_G) (cc : Nat → ClassId) (ad : Nat → Nat) (S : St) (i : Nat) (n : Nat) (mc : Nat) (hn : S.1 0 0 = nI n) (hm : S.1 0 16 = nI mc) (hn6 : n ≤ 6) (hm5 : mc ≤ 512) (hi : i < n) : CtI l D cc yX3_marksIn cX3_marksIn 2 .int 1 [.ref (ad 0), .int (nI i)] (LW cc ad S) (sX3_marksIn S i n mc) (LW cc ad S) := by
  refine CtI.of (plainFor_of_name (by decide +kernel)) rfl (Nat.le_of_ble_eq_true rfl) ?_
  intro p e s m args below meth c A Q hC hW hend ls hl
  obtain ⟨⟨hx, hb, hml, hown, hts⟩, hNW⟩ := id hC
  have hl : lv_has ls 2 [(0, .ref (ad 0)), (1, .int (nI i))] := hl
  refine lv_aload_n hx hb dX3_marksIn_0 rfl (lv_at hl 0 rfl) ?_
  refine q_get hC hW kX3_42 0 (Lg0 cc ad S) (v := .ref (ad 6)) rfl dX3_marksIn_1 ?_
  refine lv_aload_n hx hb dX3_marksIn_4 rfl (lv_at hl 0 rfl) ?_
  refine lv_iload_n hx hb dX3_marksIn_5 rfl (lv_at hl 1 rfl) ?_
  refine lv_iconst (v := 1) hx hb dX3_marksIn_6 (by decide) ?_
  refine lv_iadd hx hb dX3_marksIn_7 ?_
  refine q_ri (v := nI (i + 1)) (nq_add (a := i) (b := 1) rfl rfl) ?_
  refine q_VL hC hW (c_X3_placeAtRoller l D cc ad S (i + 1) n hn (by omega) (by omega)) mX3_162 0 (Lg0 cc ad S) rfl (by decide) rfl hl.1 rfl (Nat.le_of_ble_eq_true rfl) (by decide) dX3_marksIn_8 (fun H locs hW => ?_)
  refine lv_aload_n hx hb dX3_marksIn_11 rfl (lv_at hl 0 rfl) ?_
  refine lv_iload_n hx hb dX3_marksIn_12 rfl (lv_at hl 1 rfl) ?_
  refine q_VL hC hW (c_X3_placeAtRoller l D cc ad S i n hn (by omega) (by omega)) mX3_162 0 (Lg0 cc ad S) rfl (by decide) rfl hl.1 rfl (Nat.le_of_ble_eq_true rfl) (by decide) dX3_marksIn_13 (fun H locs hW => ?_)
  refine q_VI hC hW (c_X5_countBetween l D cc ad S (sX3_placeAtRoller S (i + 1) n) (sX3_placeAtRoller S i n) mc hm (by omega)) mX3_166 6 (Lg6 cc ad S) rfl (by decide) rfl hl.1 rfl (Nat.le_of_ble_eq_true rfl) (by decide) dX3_marksIn_16 (fun H locs hW => ?_)
  exact hend _ _ _ _ _ _ (by unfold sX3_marksIn; rfl) rfl hW dX3_marksIn_19
