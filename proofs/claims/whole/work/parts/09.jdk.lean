def sJ9_max_f86c9 (x : Int64) (y : Int64) : Int64 := (if x < y then y else x)
set_option maxHeartbeats 4000000 in
set_option maxRecDepth 100000 in
theorem c_J9_max_f86c9 (l : Launch) (D : va_G) (cc : Nat → ClassId) (ws : va_W) (x : Int64) (y : Int64) : CtL l D cc yJ9_max_f86c9 cJ9_max_f86c9 4 0 [.long x, .long y] ws (sJ9_max_f86c9 x y) ws := by
  refine CtL.of (by decide +kernel) (Nat.le_of_ble_eq_true rfl) ?_
  intro p e s m args below meth c A Q hC hW hend ls hl
  obtain ⟨⟨hx, hb, hml, hown, hts⟩, hNW⟩ := id hC
  have hl : lv_has ls 4 [(0, .long x), (2, .long y)] := hl
  refine lv_lload_n hx hb dJ9_max_f86c9_0 rfl (lv_at hl 0 rfl) ?_
  refine lv_lload_n hx hb dJ9_max_f86c9_1 rfl (lv_at hl 1 rfl) ?_
  refine q_jlt (tgt := 10) hC dJ9_max_f86c9_2 dJ9_max_f86c9_3 (by decide) (fun c_2 => ?_) (fun c_2 => ?_)
  · skip
    refine lv_lload_n hx hb dJ9_max_f86c9_10 rfl (lv_at hl 1 rfl) ?_
    exact hend _ _ _ _ _ _ (by simp only [sJ9_max_f86c9, if_pos c_2]) rfl hW dJ9_max_f86c9_11
  · skip
    refine lv_lload_n hx hb dJ9_max_f86c9_6 rfl (lv_at hl 0 rfl) ?_
    refine lv_goto (tgt := 11) hx hb dJ9_max_f86c9_7 (by decide) ?_
    exact hend _ _ _ _ _ _ (by simp only [sJ9_max_f86c9, if_neg c_2]) rfl hW dJ9_max_f86c9_11
def sJ9_min_f86c9 (x : Int64) (y : Int64) : Int64 := (if y < x then y else x)
set_option maxHeartbeats 4000000 in
set_option maxRecDepth 100000 in
theorem c_J9_min_f86c9 (l : Launch) (D : va_G) (cc : Nat → ClassId) (ws : va_W) (x : Int64) (y : Int64) : CtL l D cc yJ9_min_f86c9 cJ9_min_f86c9 4 0 [.long x, .long y] ws (sJ9_min_f86c9 x y) ws := by
  refine CtL.of (by decide +kernel) (Nat.le_of_ble_eq_true rfl) ?_
  intro p e s m args below meth c A Q hC hW hend ls hl
  obtain ⟨⟨hx, hb, hml, hown, hts⟩, hNW⟩ := id hC
  have hl : lv_has ls 4 [(0, .long x), (2, .long y)] := hl
  refine lv_lload_n hx hb dJ9_min_f86c9_0 rfl (lv_at hl 0 rfl) ?_
  refine lv_lload_n hx hb dJ9_min_f86c9_1 rfl (lv_at hl 1 rfl) ?_
  refine q_jgt (tgt := 10) hC dJ9_min_f86c9_2 dJ9_min_f86c9_3 (by decide) (fun c_2 => ?_) (fun c_2 => ?_)
  · skip
    refine lv_lload_n hx hb dJ9_min_f86c9_10 rfl (lv_at hl 1 rfl) ?_
    exact hend _ _ _ _ _ _ (by simp only [sJ9_min_f86c9, if_pos c_2]) rfl hW dJ9_min_f86c9_11
  · skip
    refine lv_lload_n hx hb dJ9_min_f86c9_6 rfl (lv_at hl 0 rfl) ?_
    refine lv_goto (tgt := 11) hx hb dJ9_min_f86c9_7 (by decide) ?_
    exact hend _ _ _ _ _ _ (by simp only [sJ9_min_f86c9, if_neg c_2]) rfl hW dJ9_min_f86c9_11
def sJ9_min_7cf53 (x : Int32) (y : Int32) : Int32 := (if y < x then y else x)
set_option maxHeartbeats 4000000 in
set_option maxRecDepth 100000 in
theorem c_J9_min_7cf53 (l : Launch) (D : va_G) (cc : Nat → ClassId) (ws : va_W) (x : Int32) (y : Int32) : CtI l D cc yJ9_min_7cf53 cJ9_min_7cf53 2 .int 0 [.int x, .int y] ws (sJ9_min_7cf53 x y) ws := by
  refine CtI.of (by decide +kernel) rfl (Nat.le_of_ble_eq_true rfl) ?_
  intro p e s m args below meth c A Q hC hW hend ls hl
  obtain ⟨⟨hx, hb, hml, hown, hts⟩, hNW⟩ := id hC
  have hl : lv_has ls 2 [(0, .int x), (1, .int y)] := hl
  refine lv_iload_n hx hb dJ9_min_7cf53_0 rfl (lv_at hl 0 rfl) ?_
  refine lv_iload_n hx hb dJ9_min_7cf53_1 rfl (lv_at hl 1 rfl) ?_
  refine lv_icmp_gt (tgt := 9) hx hb dJ9_min_7cf53_2 (by decide) (fun c_2 => ?_) (fun c_2 => ?_)
  · skip
    refine lv_iload_n hx hb dJ9_min_7cf53_9 rfl (lv_at hl 1 rfl) ?_
    exact hend _ _ _ _ _ _ (by simp only [sJ9_min_7cf53, if_pos c_2]) rfl hW dJ9_min_7cf53_10
  · skip
    refine lv_iload_n hx hb dJ9_min_7cf53_5 rfl (lv_at hl 0 rfl) ?_
    refine lv_goto (tgt := 10) hx hb dJ9_min_7cf53_6 (by decide) ?_
    exact hend _ _ _ _ _ _ (by simp only [sJ9_min_7cf53, if_neg c_2]) rfl hW dJ9_min_7cf53_10
def sJ9_abs_067f4 (x : Int64) : Int64 := (if 0 ≤ x then x else (-x))
set_option maxHeartbeats 4000000 in
set_option maxRecDepth 100000 in
theorem c_J9_abs_067f4 (l : Launch) (D : va_G) (cc : Nat → ClassId) (ws : va_W) (x : Int64) : CtL l D cc yJ9_abs_067f4 cJ9_abs_067f4 2 0 [.long x] ws (sJ9_abs_067f4 x) ws := by
  refine CtL.of (by decide +kernel) (Nat.le_of_ble_eq_true rfl) ?_
  intro p e s m args below meth c A Q hC hW hend ls hl
  obtain ⟨⟨hx, hb, hml, hown, hts⟩, hNW⟩ := id hC
  have hl : lv_has ls 2 [(0, .long x)] := hl
  refine lv_lload_n hx hb dJ9_abs_067f4_0 rfl (lv_at hl 0 rfl) ?_
  refine lv_lconst (v := 0) hx hb dJ9_abs_067f4_1 rfl ?_
  refine q_jge (tgt := 11) hC dJ9_abs_067f4_2 dJ9_abs_067f4_3 (by decide) (fun c_2 => ?_) (fun c_2 => ?_)
  · skip
    refine lv_lload_n hx hb dJ9_abs_067f4_11 rfl (lv_at hl 0 rfl) ?_
    exact hend _ _ _ _ _ _ (by simp only [sJ9_abs_067f4, if_pos c_2]) rfl hW dJ9_abs_067f4_12
  · skip
    refine lv_lload_n hx hb dJ9_abs_067f4_6 rfl (lv_at hl 0 rfl) ?_
    refine lv_lneg hx hb dJ9_abs_067f4_7 ?_
    refine lv_goto (tgt := 12) hx hb dJ9_abs_067f4_8 (by decide) ?_
    exact hend _ _ _ _ _ _ (by simp only [sJ9_abs_067f4, if_neg c_2]) rfl hW dJ9_abs_067f4_12
def sJ9_floorDiv_f86c9 (x : Int64) (y : Int64) : Int64 := (if 0 ≤ (x ^^^ y) then (x / y) else (if ((x / y) * y) = x then (x / y) else ((x / y) - 1)))
set_option maxHeartbeats 4000000 in
set_option maxRecDepth 100000 in
theorem c_J9_floorDiv_f86c9 (l : Launch) (D : va_G) (cc : Nat → ClassId) (ws : va_W) (x : Int64) (y : Int64) (hy : ¬ y = 0) : CtL l D cc yJ9_floorDiv_f86c9 cJ9_floorDiv_f86c9 6 0 [.long x, .long y] ws (sJ9_floorDiv_f86c9 x y) ws := by
  refine CtL.of (by decide +kernel) (Nat.le_of_ble_eq_true rfl) ?_
  intro p e s m args below meth c A Q hC hW hend ls hl
  obtain ⟨⟨hx, hb, hml, hown, hts⟩, hNW⟩ := id hC
  have hl : lv_has ls 6 [(0, .long x), (2, .long y)] := hl
  refine lv_lload_n hx hb dJ9_floorDiv_f86c9_0 rfl (lv_at hl 0 rfl) ?_
  refine lv_lload_n hx hb dJ9_floorDiv_f86c9_1 rfl (lv_at hl 1 rfl) ?_
  refine lv_ldiv hx hb dJ9_floorDiv_f86c9_2 hy ?_
  refine lv_lstore (lv' := [(4, .long (x / y)), (0, .long x), (2, .long y)]) hx hb dJ9_floorDiv_f86c9_3 hl (by decide) rfl (fun ls hl => ?_)
  refine lv_lload_n hx hb dJ9_floorDiv_f86c9_5 rfl (lv_at hl 1 rfl) ?_
  refine lv_lload_n hx hb dJ9_floorDiv_f86c9_6 rfl (lv_at hl 2 rfl) ?_
  refine lv_lxor hx hb dJ9_floorDiv_f86c9_7 ?_
  refine lv_lconst (v := 0) hx hb dJ9_floorDiv_f86c9_8 rfl ?_
  refine q_jge (tgt := 27) hC dJ9_floorDiv_f86c9_9 dJ9_floorDiv_f86c9_10 (by decide) (fun c_9 => ?_) (fun c_9 => ?_)
  · skip
    refine lv_lload hx hb dJ9_floorDiv_f86c9_27 (lv_at hl 0 rfl) ?_
    exact hend _ _ _ _ _ _ (by simp only [sJ9_floorDiv_f86c9, if_pos c_9]) rfl hW dJ9_floorDiv_f86c9_29
  · skip
    refine lv_lload hx hb dJ9_floorDiv_f86c9_13 (lv_at hl 0 rfl) ?_
    refine lv_lload_n hx hb dJ9_floorDiv_f86c9_15 rfl (lv_at hl 2 rfl) ?_
    refine lv_lmul hx hb dJ9_floorDiv_f86c9_16 ?_
    refine lv_lload_n hx hb dJ9_floorDiv_f86c9_17 rfl (lv_at hl 1 rfl) ?_
    refine q_jeq (tgt := 27) hC dJ9_floorDiv_f86c9_18 dJ9_floorDiv_f86c9_19 (by decide) (fun c_18 => ?_) (fun c_18 => ?_)
    · skip
      refine lv_lload hx hb dJ9_floorDiv_f86c9_27 (lv_at hl 0 rfl) ?_
      exact hend _ _ _ _ _ _ (by simp only [sJ9_floorDiv_f86c9, if_neg c_9, if_pos c_18]) rfl hW dJ9_floorDiv_f86c9_29
    · skip
      refine lv_lload hx hb dJ9_floorDiv_f86c9_22 (lv_at hl 0 rfl) ?_
      refine lv_lconst (v := 1) hx hb dJ9_floorDiv_f86c9_24 rfl ?_
      refine lv_lsub hx hb dJ9_floorDiv_f86c9_25 ?_
      exact hend _ _ _ _ _ _ (by simp only [sJ9_floorDiv_f86c9, if_neg c_9, if_neg c_18]) rfl hW dJ9_floorDiv_f86c9_26
def sJ9_floorMod_7cf53 (x : Int32) (y : Int32) : Int32 := (if 0 ≤ (x ^^^ y) then (x - x / y * y) else (if (x - x / y * y) = 0 then (x - x / y * y) else ((x - x / y * y) + y)))
set_option maxHeartbeats 4000000 in
set_option maxRecDepth 100000 in
theorem c_J9_floorMod_7cf53 (l : Launch) (D : va_G) (cc : Nat → ClassId) (ws : va_W) (x : Int32) (y : Int32) (hy : ¬ y = 0) : CtI l D cc yJ9_floorMod_7cf53 cJ9_floorMod_7cf53 3 .int 0 [.int x, .int y] ws (sJ9_floorMod_7cf53 x y) ws := by
  refine CtI.of (by decide +kernel) rfl (Nat.le_of_ble_eq_true rfl) ?_
  intro p e s m args below meth c A Q hC hW hend ls hl
  obtain ⟨⟨hx, hb, hml, hown, hts⟩, hNW⟩ := id hC
  have hl : lv_has ls 3 [(0, .int x), (1, .int y)] := hl
  refine lv_iload_n hx hb dJ9_floorMod_7cf53_0 rfl (lv_at hl 0 rfl) ?_
  refine lv_iload_n hx hb dJ9_floorMod_7cf53_1 rfl (lv_at hl 1 rfl) ?_
  refine lv_irem hx hb dJ9_floorMod_7cf53_2 hy ?_
  refine lv_istore_n (lv' := [(2, .int (x - x / y * y)), (0, .int x), (1, .int y)]) hx hb dJ9_floorMod_7cf53_3 rfl hl (by decide) rfl (fun ls hl => ?_)
  refine lv_iload_n hx hb dJ9_floorMod_7cf53_4 rfl (lv_at hl 1 rfl) ?_
  refine lv_iload_n hx hb dJ9_floorMod_7cf53_5 rfl (lv_at hl 2 rfl) ?_
  refine lv_ixor hx hb dJ9_floorMod_7cf53_6 ?_
  refine lv_if_ge (tgt := 18) hx hb dJ9_floorMod_7cf53_7 (by decide) (fun c_7 => ?_) (fun c_7 => ?_)
  · skip
    refine lv_iload_n hx hb dJ9_floorMod_7cf53_18 rfl (lv_at hl 0 rfl) ?_
    exact hend _ _ _ _ _ _ (by simp only [sJ9_floorMod_7cf53, if_pos c_7]) rfl hW dJ9_floorMod_7cf53_19
  · skip
    refine lv_iload_n hx hb dJ9_floorMod_7cf53_10 rfl (lv_at hl 0 rfl) ?_
    refine lv_if_eq (tgt := 18) hx hb dJ9_floorMod_7cf53_11 (by decide) (fun c_11 => ?_) (fun c_11 => ?_)
    · skip
      refine lv_iload_n hx hb dJ9_floorMod_7cf53_18 rfl (lv_at hl 0 rfl) ?_
      exact hend _ _ _ _ _ _ (by simp only [sJ9_floorMod_7cf53, if_neg c_7, if_pos c_11]) rfl hW dJ9_floorMod_7cf53_19
    · skip
      refine lv_iload_n hx hb dJ9_floorMod_7cf53_14 rfl (lv_at hl 0 rfl) ?_
      refine lv_iload_n hx hb dJ9_floorMod_7cf53_15 rfl (lv_at hl 2 rfl) ?_
      refine lv_iadd hx hb dJ9_floorMod_7cf53_16 ?_
      exact hend _ _ _ _ _ _ (by simp only [sJ9_floorMod_7cf53, if_neg c_7, if_neg c_11]) rfl hW dJ9_floorMod_7cf53_17
