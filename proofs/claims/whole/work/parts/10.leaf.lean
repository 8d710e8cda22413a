def sX11_isWithin (x : Int32) (y : Int32) (z : Int32) : Int32 := (if x < y then 0 else (if z < x then 0 else 1))
set_option maxHeartbeats 4000000 in
set_option maxRecDepth 100000 in
theorem c_X11_isWithin (l : Launch) (D : va_G) (cc : Nat → ClassId) (ws : va_W) (x : Int32) (y : Int32) (z : Int32) : CtI l D cc yX11_isWithin cX11_isWithin 3 .boolean 0 [.int x, .int y, .int z] ws (sX11_isWithin x y z) ws := by
  refine CtI.of (plainFor_of_name (by decide +kernel)) (by unfold sX11_isWithin; repeat' (first | rfl | split)) (Nat.le_of_ble_eq_true rfl) ?_
  intro p e s m args below meth c A Q hC hW hend ls hl
  obtain ⟨⟨hx, hb, hml, hown, hts⟩, hNW⟩ := id hC
  have hl : lv_has ls 3 [(0, .int x), (1, .int y), (2, .int z)] := hl
  refine lv_iload_n hx hb dX11_isWithin_0 rfl (lv_at hl 0 rfl) ?_
  refine lv_iload_n hx hb dX11_isWithin_1 rfl (lv_at hl 1 rfl) ?_
  refine lv_icmp_lt (tgt := 14) hx hb dX11_isWithin_2 (by decide) (fun c_2 => ?_) (fun c_2 => ?_)
  · skip
    refine lv_iconst (v := 0) hx hb dX11_isWithin_14 (by decide) ?_
    exact hend _ _ _ _ _ _ (by simp only [sX11_isWithin, if_pos c_2]) rfl hW dX11_isWithin_15
  · skip
    refine lv_iload_n hx hb dX11_isWithin_5 rfl (lv_at hl 0 rfl) ?_
    refine lv_iload_n hx hb dX11_isWithin_6 rfl (lv_at hl 2 rfl) ?_
    refine lv_icmp_gt (tgt := 14) hx hb dX11_isWithin_7 (by decide) (fun c_7 => ?_) (fun c_7 => ?_)
    · skip
      refine lv_iconst (v := 0) hx hb dX11_isWithin_14 (by decide) ?_
      exact hend _ _ _ _ _ _ (by simp only [sX11_isWithin, if_neg c_2, if_pos c_7]) rfl hW dX11_isWithin_15
    · skip
      refine lv_iconst (v := 1) hx hb dX11_isWithin_10 (by decide) ?_
      refine lv_goto (tgt := 15) hx hb dX11_isWithin_11 (by decide) ?_
      exact hend _ _ _ _ _ _ (by simp only [sX11_isWithin, if_neg c_2, if_neg c_7]) rfl hW dX11_isWithin_15
def sX11_limit (x : Int64) (y : Int64) (z : Int64) : Int64 := (sJ9_max_f86c9 y (sJ9_min_f86c9 z x))
set_option maxHeartbeats 4000000 in
set_option maxRecDepth 100000 in
theorem c_X11_limit (l : Launch) (D : va_G) (cc : Nat → ClassId) (ws : va_W) (x : Int64) (y : Int64) (z : Int64) : CtL l D cc yX11_limit cX11_limit 6 1 [.long x, .long y, .long z] ws (sX11_limit x y z) ws := by
  refine CtL.of (plainFor_of_name (by decide +kernel)) (Nat.le_of_ble_eq_true rfl) ?_
  intro p e s m args below meth c A Q hC hW hend ls hl
  obtain ⟨⟨hx, hb, hml, hown, hts⟩, hNW⟩ := id hC
  have hl : lv_has ls 6 [(0, .long x), (2, .long y), (4, .long z)] := hl
  refine lv_lload_n hx hb dX11_limit_0 rfl (lv_at hl 1 rfl) ?_
  refine lv_lload hx hb dX11_limit_1 (lv_at hl 2 rfl) ?_
  refine lv_lload_n hx hb dX11_limit_3 rfl (lv_at hl 0 rfl) ?_
  refine q_SL hC hW (c_J9_min_f86c9 l D cc _ z x) mX11_271 (by decide) rfl hl.1 rfl (Nat.le_of_ble_eq_true rfl) (by decide) dX11_limit_4 (fun H locs hW => ?_)
  refine q_SL hC hW (c_J9_max_f86c9 l D cc _ y (sJ9_min_f86c9 z x)) mX11_266 (by decide) rfl hl.1 rfl (Nat.le_of_ble_eq_true rfl) (by decide) dX11_limit_7 (fun H locs hW => ?_)
  exact hend _ _ _ _ _ _ (by unfold sX11_limit; rfl) rfl hW dX11_limit_10
def sX11_quotient (x : Int64) (y : Int64) : Int64 := (if 0 < y then (sJ9_floorDiv_f86c9 x y) else 0)
set_option maxHeartbeats 4000000 in
set_option maxRecDepth 100000 in
theorem c_X11_quotient (l : Launch) (D : va_G) (cc : Nat → ClassId) (ws : va_W) (x : Int64) (y : Int64) : CtL l D cc yX11_quotient cX11_quotient 4 1 [.long x, .long y] ws (sX11_quotient x y) ws := by
  refine CtL.of (plainFor_of_name (by decide +kernel)) (Nat.le_of_ble_eq_true rfl) ?_
  intro p e s m args below meth c A Q hC hW hend ls hl
  obtain ⟨⟨hx, hb, hml, hown, hts⟩, hNW⟩ := id hC
  have hl : lv_has ls 4 [(0, .long x), (2, .long y)] := hl
  refine lv_lload_n hx hb dX11_quotient_0 rfl (lv_at hl 1 rfl) ?_
  refine lv_lconst (v := 0) hx hb dX11_quotient_1 rfl ?_
  refine q_jgt (tgt := 10) hC dX11_quotient_2 dX11_quotient_3 (by decide) (fun c_2 => ?_) (fun c_2 => ?_)
  · skip
    refine lv_lload_n hx hb dX11_quotient_10 rfl (lv_at hl 0 rfl) ?_
    refine lv_lload_n hx hb dX11_quotient_11 rfl (lv_at hl 1 rfl) ?_
    refine q_SL hC hW (c_J9_floorDiv_f86c9 l D cc _ x y (fun q => by rw [q] at c_2; exact absurd c_2 (by decide))) mX11_274 (by decide) rfl hl.1 rfl (Nat.le_of_ble_eq_true rfl) (by decide) dX11_quotient_12 (fun H locs hW => ?_)
    exact hend _ _ _ _ _ _ (by simp only [sX11_quotient, if_pos c_2]) rfl hW dX11_quotient_15
  · skip
    refine lv_lconst (v := 0) hx hb dX11_quotient_6 rfl ?_
    refine lv_goto (tgt := 15) hx hb dX11_quotient_7 (by decide) ?_
    exact hend _ _ _ _ _ _ (by simp only [sX11_quotient, if_neg c_2]) rfl hW dX11_quotient_15
def sX11_drawn (x : Int64) (y : Int32) : Int64 := (sJ9_floorDiv_f86c9 (x * (1000000 + (y.toInt64))) 1000000)
set_option maxHeartbeats 4000000 in
set_option maxRecDepth 100000 in
theorem c_X11_drawn (l : Launch) (D : va_G) (cc : Nat → ClassId) (ws : va_W) (x : Int64) (y : Int32) : CtL l D cc yX11_drawn cX11_drawn 3 1 [.long x, .int y] ws (sX11_drawn x y) ws := by
  refine CtL.of (plainFor_of_name (by decide +kernel)) (Nat.le_of_ble_eq_true rfl) ?_
  intro p e s m args below meth c A Q hC hW hend ls hl
  obtain ⟨⟨hx, hb, hml, hown, hts⟩, hNW⟩ := id hC
  have hl : lv_has ls 3 [(0, .long x), (2, .int y)] := hl
  refine lv_lload_n hx hb dX11_drawn_0 rfl (lv_at hl 0 rfl) ?_
  refine q_ldc2 hC nX11_277 dX11_drawn_1 ?_
  refine lv_iload_n hx hb dX11_drawn_4 rfl (lv_at hl 1 rfl) ?_
  refine lv_i2l hx hb dX11_drawn_5 rfl ?_
  refine lv_ladd hx hb dX11_drawn_6 ?_
  refine lv_lmul hx hb dX11_drawn_7 ?_
  refine q_ldc2 hC nX11_277 dX11_drawn_8 ?_
  refine q_SL hC hW (c_J9_floorDiv_f86c9 l D cc _ (x * (1000000 + (y.toInt64))) 1000000 (by decide)) mX11_274 (by decide) rfl hl.1 rfl (Nat.le_of_ble_eq_true rfl) (by decide) dX11_drawn_11 (fun H locs hW => ?_)
  exact hend _ _ _ _ _ _ (by unfold sX11_drawn; rfl) rfl hW dX11_drawn_14
