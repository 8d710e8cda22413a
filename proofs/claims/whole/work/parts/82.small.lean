/-! ===== the small constructors ===== -/
set_option maxHeartbeats 4000000 in
set_option maxRecDepth 100000 in
theorem n_X0_init (l : Launch) (D : va_G) (cc : Nat → ClassId) (h : Nat) : CtN l D cc yX0_init cX0_init 1 1 0 0 [.ref h] [(h, .inr (0, [.int 0, .int 0, .int 0, .int 0, .int 0, .int 0, .int 0]))] (fun w => w = [(h, .inr (0, [.int 0, .int 0, .int 0, .int 0, .int 0, .int 0, .int 0]))]) := by
  refine CtN.of (by decide +kernel) rfl (Nat.le_of_ble_eq_true rfl) ?_
  intro p e s m args below meth c A Q hC hO hin hW hend ls hl
  obtain ⟨⟨hx, hb, hml, hown, hts⟩, hNW⟩ := id hC
  have hl : lv_has ls 1 [(0, .ref h)] := hl
  refine lv_aload_n hx hb dX0_init_0 rfl (lv_at hl 0 rfl) ?_
  refine q_obj hC oX0_3 hl.1 ⟨Nat.le_of_ble_eq_true rfl, Nat.le_of_ble_eq_true rfl⟩ dX0_init_1 ?_
  exact hend _ _ _ _ _ rfl hW dX0_init_4
set_option maxHeartbeats 4000000 in
set_option maxRecDepth 100000 in
theorem n_X1_init (l : Launch) (D : va_G) (cc : Nat → ClassId) (h : Nat) : CtN l D cc yX1_init cX1_init 1 1 0 0 [.ref h] [(h, .inr (1, [.int 0, .int 0, .int 0, .int 0, .int 0]))] (fun w => w = [(h, .inr (1, [.int 0, .int 0, .int 0, .int 0, .int 0]))]) := by
  refine CtN.of (by decide +kernel) rfl (Nat.le_of_ble_eq_true rfl) ?_
  intro p e s m args below meth c A Q hC hO hin hW hend ls hl
  obtain ⟨⟨hx, hb, hml, hown, hts⟩, hNW⟩ := id hC
  have hl : lv_has ls 1 [(0, .ref h)] := hl
  refine lv_aload_n hx hb dX1_init_0 rfl (lv_at hl 0 rfl) ?_
  refine q_obj hC oX1_1 hl.1 ⟨Nat.le_of_ble_eq_true rfl, Nat.le_of_ble_eq_true rfl⟩ dX1_init_1 ?_
  exact hend _ _ _ _ _ rfl hW dX1_init_4
set_option maxHeartbeats 4000000 in
set_option maxRecDepth 100000 in
theorem n_X4_init (l : Launch) (D : va_G) (cc : Nat → ClassId) (h : Nat) : CtN l D cc yX4_init cX4_init 1 1 0 0 [.ref h] [(h, .inr (4, [.int 0, .int 0]))] (fun w => w = [(h, .inr (4, [.int 0, .int 0]))]) := by
  refine CtN.of (by decide +kernel) rfl (Nat.le_of_ble_eq_true rfl) ?_
  intro p e s m args below meth c A Q hC hO hin hW hend ls hl
  obtain ⟨⟨hx, hb, hml, hown, hts⟩, hNW⟩ := id hC
  have hl : lv_has ls 1 [(0, .ref h)] := hl
  refine lv_aload_n hx hb dX4_init_0 rfl (lv_at hl 0 rfl) ?_
  refine q_obj hC oX4_3 hl.1 ⟨Nat.le_of_ble_eq_true rfl, Nat.le_of_ble_eq_true rfl⟩ dX4_init_1 ?_
  exact hend _ _ _ _ _ rfl hW dX4_init_4
set_option maxHeartbeats 4000000 in
set_option maxRecDepth 100000 in
theorem n_X6_init (l : Launch) (D : va_G) (cc : Nat → ClassId) (h : Nat) : CtN l D cc yX6_init cX6_init 1 1 0 0 [.ref h] [(h, .inr (6, [.long 0, .int 0, .int 0]))] (fun w => w = [(h, .inr (6, [.long 0, .int 0, .int 0]))]) := by
  refine CtN.of (by decide +kernel) rfl (Nat.le_of_ble_eq_true rfl) ?_
  intro p e s m args below meth c A Q hC hO hin hW hend ls hl
  obtain ⟨⟨hx, hb, hml, hown, hts⟩, hNW⟩ := id hC
  have hl : lv_has ls 1 [(0, .ref h)] := hl
  refine lv_aload_n hx hb dX6_init_0 rfl (lv_at hl 0 rfl) ?_
  refine q_obj hC oX6_3 hl.1 ⟨Nat.le_of_ble_eq_true rfl, Nat.le_of_ble_eq_true rfl⟩ dX6_init_1 ?_
  exact hend _ _ _ _ _ rfl hW dX6_init_4
set_option maxHeartbeats 4000000 in
set_option maxRecDepth 100000 in
theorem n_X7_init (l : Launch) (D : va_G) (cc : Nat → ClassId) (h : Nat) : CtN l D cc yX7_init cX7_init 1 1 0 0 [.ref h] [(h, .inr (7, [.long 0, .int 0, .int 0]))] (fun w => w = [(h, .inr (7, [.long 0, .int 0, .int 0]))]) := by
  refine CtN.of (by decide +kernel) rfl (Nat.le_of_ble_eq_true rfl) ?_
  intro p e s m args below meth c A Q hC hO hin hW hend ls hl
  obtain ⟨⟨hx, hb, hml, hown, hts⟩, hNW⟩ := id hC
  have hl : lv_has ls 1 [(0, .ref h)] := hl
  refine lv_aload_n hx hb dX7_init_0 rfl (lv_at hl 0 rfl) ?_
  refine q_obj hC oX7_1 hl.1 ⟨Nat.le_of_ble_eq_true rfl, Nat.le_of_ble_eq_true rfl⟩ dX7_init_1 ?_
  exact hend _ _ _ _ _ rfl hW dX7_init_4
set_option maxHeartbeats 4000000 in
set_option maxRecDepth 100000 in
theorem n_X10_init (l : Launch) (D : va_G) (cc : Nat → ClassId) (h : Nat) : CtN l D cc yX10_init cX10_init 1 1 0 0 [.ref h] [(h, .inr (10, [.int 0, .int 0, .int 0, .int 0]))] (fun w => w = [(h, .inr (10, [.int 0, .int 0, .int 0, .int 0]))]) := by
  refine CtN.of (by decide +kernel) rfl (Nat.le_of_ble_eq_true rfl) ?_
  intro p e s m args below meth c A Q hC hO hin hW hend ls hl
  obtain ⟨⟨hx, hb, hml, hown, hts⟩, hNW⟩ := id hC
  have hl : lv_has ls 1 [(0, .ref h)] := hl
  refine lv_aload_n hx hb dX10_init_0 rfl (lv_at hl 0 rfl) ?_
  refine q_obj hC oX10_3 hl.1 ⟨Nat.le_of_ble_eq_true rfl, Nat.le_of_ble_eq_true rfl⟩ dX10_init_1 ?_
  exact hend _ _ _ _ _ rfl hW dX10_init_4
set_option maxHeartbeats 4000000 in
set_option maxRecDepth 100000 in
theorem n_X9_init (l : Launch) (D : va_G) (cc : Nat → ClassId) (h : Nat) : CtN l D cc yX9_init cX9_init 1 1 1 4 [.ref h] [(h, .inr (9, [.null, .int 0, .long 0]))] (fun w => ∃ a1, w = [(h, .inr (9, [.ref a1, .int 0, .long 0])), (a1, .inl (cc 0, 4, .inl (fun _ => 0)))]) := by
  refine CtN.of (by decide +kernel) rfl (Nat.le_of_ble_eq_true rfl) ?_
  intro p e s m args below meth c A Q hC hO hin hW hend ls hl
  obtain ⟨⟨hx, hb, hml, hown, hts⟩, hNW⟩ := id hC
  have hl : lv_has ls 1 [(0, .ref h)] := hl
  refine lv_aload_n hx hb dX9_init_0 rfl (lv_at hl 0 rfl) ?_
  refine q_obj hC oX9_3 hl.1 ⟨Nat.le_of_ble_eq_true rfl, Nat.le_of_ble_eq_true rfl⟩ dX9_init_1 ?_
  refine lv_aload_n hx hb dX9_init_4 rfl (lv_at hl 0 rfl) ?_
  refine lv_iconst (v := 4) hx hb dX9_init_5 (by decide) ?_
  refine q_newi hC hW 4 rfl (by decide) (GW_of (i := 99) (by decide +kernel) rfl) ⟨Nat.le_of_ble_eq_true rfl, Nat.le_of_ble_eq_true rfl⟩ dX9_init_6 (fun a1 H hW => ?_)
  have hW : Wd D cc [(h, .inr (9, [.null, .int 0, .long 0])), (a1, .inl (cc 0, 4, .inl (fun _ => 0)))] A s.heap _ _ s := hW
  refine q_putF hC hin hW jX9_9 0 rfl (w2 := [(h, .inr (9, [.ref a1, .int 0, .long 0])), (a1, .inl (cc 0, 4, .inl (fun _ => 0)))]) rfl rfl rfl (Nat.le_of_ble_eq_true rfl) dX9_init_8 (fun H locs hW => ?_)
  exact hend _ _ _ _ _ ⟨a1, rfl⟩ hW dX9_init_11
set_option maxHeartbeats 4000000 in
set_option maxRecDepth 100000 in
theorem n_X5_init (l : Launch) (D : va_G) (cc : Nat → ClassId) (h : Nat) : CtN l D cc yX5_init cX5_init 1 1 1 512 [.ref h] [(h, .inr (5, [.null, .int 0]))] (fun w => ∃ a1, w = [(h, .inr (5, [.ref a1, .int 0])), (a1, .inl (cc 1, 512, .inr (.inl (fun _ => 0))))]) := by
  refine CtN.of (by decide +kernel) rfl (Nat.le_of_ble_eq_true rfl) ?_
  intro p e s m args below meth c A Q hC hO hin hW hend ls hl
  obtain ⟨⟨hx, hb, hml, hown, hts⟩, hNW⟩ := id hC
  have hl : lv_has ls 1 [(0, .ref h)] := hl
  refine lv_aload_n hx hb dX5_init_0 rfl (lv_at hl 0 rfl) ?_
  refine q_obj hC oX5_3 hl.1 ⟨Nat.le_of_ble_eq_true rfl, Nat.le_of_ble_eq_true rfl⟩ dX5_init_1 ?_
  refine lv_aload_n hx hb dX5_init_4 rfl (lv_at hl 0 rfl) ?_
  refine lv_sipush (v := 512) hx hb dX5_init_5 (by decide) ?_
  refine q_newl hC hW 512 rfl (by decide) (GW_of (i := 135) (by decide +kernel) rfl) ⟨Nat.le_of_ble_eq_true rfl, Nat.le_of_ble_eq_true rfl⟩ dX5_init_8 (fun a1 H hW => ?_)
  have hW : Wd D cc [(h, .inr (5, [.null, .int 0])), (a1, .inl (cc 1, 512, .inr (.inl (fun _ => 0))))] A s.heap _ _ s := hW
  refine q_putF hC hin hW jX5_9 0 rfl (w2 := [(h, .inr (5, [.ref a1, .int 0])), (a1, .inl (cc 1, 512, .inr (.inl (fun _ => 0))))]) rfl rfl rfl (Nat.le_of_ble_eq_true rfl) dX5_init_10 (fun H locs hW => ?_)
  exact hend _ _ _ _ _ ⟨a1, rfl⟩ hW dX5_init_13
set_option maxHeartbeats 4000000 in
set_option maxRecDepth 100000 in
theorem n_X2_init (l : Launch) (D : va_G) (cc : Nat → ClassId) (h : Nat) : CtN l D cc yX2_init cX2_init 1 1 3 90 [.ref h] [(h, .inr (2, [.null, .null, .null, .int 0, .int 0]))] (fun w => ∃ a1 a2 a3, w = [(h, .inr (2, [.ref a1, .ref a2, .ref a3, .int 0, .int 0])), (a1, .inl (cc 0, 30, .inl (fun _ => 0))), (a2, .inl (cc 0, 30, .inl (fun _ => 0))), (a3, .inl (cc 0, 30, .inl (fun _ => 0)))]) := by
  refine CtN.of (by decide +kernel) rfl (Nat.le_of_ble_eq_true rfl) ?_
  intro p e s m args below meth c A Q hC hO hin hW hend ls hl
  obtain ⟨⟨hx, hb, hml, hown, hts⟩, hNW⟩ := id hC
  have hl : lv_has ls 1 [(0, .ref h)] := hl
  refine lv_aload_n hx hb dX2_init_0 rfl (lv_at hl 0 rfl) ?_
  refine q_obj hC oX2_3 hl.1 ⟨Nat.le_of_ble_eq_true rfl, Nat.le_of_ble_eq_true rfl⟩ dX2_init_1 ?_
  refine lv_aload_n hx hb dX2_init_4 rfl (lv_at hl 0 rfl) ?_
  refine lv_bipush (v := 30) hx hb dX2_init_5 (by decide) ?_
  refine q_newi hC hW 30 rfl (by decide) (GW_of (i := 99) (by decide +kernel) rfl) ⟨Nat.le_of_ble_eq_true rfl, Nat.le_of_ble_eq_true rfl⟩ dX2_init_7 (fun a1 H hW => ?_)
  have hW : Wd D cc [(h, .inr (2, [.null, .null, .null, .int 0, .int 0])), (a1, .inl (cc 0, 30, .inl (fun _ => 0)))] A s.heap _ _ s := hW
  refine q_putF hC hin hW jX2_9 0 rfl (w2 := [(h, .inr (2, [.ref a1, .null, .null, .int 0, .int 0])), (a1, .inl (cc 0, 30, .inl (fun _ => 0)))]) rfl rfl rfl (Nat.le_of_ble_eq_true rfl) dX2_init_9 (fun H locs hW => ?_)
  refine lv_aload_n hx hb dX2_init_12 rfl (lv_at hl 0 rfl) ?_
  refine lv_bipush (v := 30) hx hb dX2_init_13 (by decide) ?_
  refine q_newi hC hW 30 rfl (by decide) (GW_of (i := 99) (by decide +kernel) rfl) ⟨Nat.le_of_ble_eq_true rfl, Nat.le_of_ble_eq_true rfl⟩ dX2_init_15 (fun a2 H hW => ?_)
  have hW : Wd D cc [(h, .inr (2, [.ref a1, .null, .null, .int 0, .int 0])), (a1, .inl (cc 0, 30, .inl (fun _ => 0))), (a2, .inl (cc 0, 30, .inl (fun _ => 0)))] A s.heap _ _ s := hW
  refine q_putF hC hin hW jX2_15 0 rfl (w2 := [(h, .inr (2, [.ref a1, .ref a2, .null, .int 0, .int 0])), (a1, .inl (cc 0, 30, .inl (fun _ => 0))), (a2, .inl (cc 0, 30, .inl (fun _ => 0)))]) rfl rfl rfl (Nat.le_of_ble_eq_true rfl) dX2_init_17 (fun H locs hW => ?_)
  refine lv_aload_n hx hb dX2_init_20 rfl (lv_at hl 0 rfl) ?_
  refine lv_bipush (v := 30) hx hb dX2_init_21 (by decide) ?_
  refine q_newi hC hW 30 rfl (by decide) (GW_of (i := 99) (by decide +kernel) rfl) ⟨Nat.le_of_ble_eq_true rfl, Nat.le_of_ble_eq_true rfl⟩ dX2_init_23 (fun a3 H hW => ?_)
  have hW : Wd D cc [(h, .inr (2, [.ref a1, .ref a2, .null, .int 0, .int 0])), (a1, .inl (cc 0, 30, .inl (fun _ => 0))), (a2, .inl (cc 0, 30, .inl (fun _ => 0))), (a3, .inl (cc 0, 30, .inl (fun _ => 0)))] A s.heap _ _ s := hW
  refine q_putF hC hin hW jX2_18 0 rfl (w2 := [(h, .inr (2, [.ref a1, .ref a2, .ref a3, .int 0, .int 0])), (a1, .inl (cc 0, 30, .inl (fun _ => 0))), (a2, .inl (cc 0, 30, .inl (fun _ => 0))), (a3, .inl (cc 0, 30, .inl (fun _ => 0)))]) rfl rfl rfl (Nat.le_of_ble_eq_true rfl) dX2_init_25 (fun H locs hW => ?_)
  exact hend _ _ _ _ _ ⟨a1, a2, a3, rfl⟩ hW dX2_init_28
set_option maxHeartbeats 4000000 in
set_option maxRecDepth 100000 in
theorem n_X8_init (l : Launch) (D : va_G) (cc : Nat → ClassId) (h : Nat) : CtN l D cc yX8_init cX8_init 1 2 2 9 [.ref h] [(h, .inr (8, [.null, .null, .int 0, .int 0, .long 0, .long 0, .int 0]))] (fun w => ∃ a1 a2, w = [(h, .inr (8, [.ref a1, .ref a2, .int 0, .int 0, .long 0, .long 0, .int 0])), (a1, .inr (0, [.int 0, .int 0, .int 0, .int 0, .int 0, .int 0, .int 0])), (a2, .inr (4, [.int 0, .int 0]))]) := by
  refine CtN.of (by decide +kernel) rfl (Nat.le_of_ble_eq_true rfl) ?_
  intro p e s m args below meth c A Q hC hO hin hW hend ls hl
  obtain ⟨⟨hx, hb, hml, hown, hts⟩, hNW⟩ := id hC
  have hl : lv_has ls 1 [(0, .ref h)] := hl
  refine lv_aload_n hx hb dX8_init_0 rfl (lv_at hl 0 rfl) ?_
  refine q_obj hC oX8_3 hl.1 ⟨Nat.le_of_ble_eq_true rfl, Nat.le_of_ble_eq_true rfl⟩ dX8_init_1 ?_
  refine lv_aload_n hx hb dX8_init_4 rfl (lv_at hl 0 rfl) ?_
  refine q_new hC hW nX8_9 ⟨Nat.le_of_ble_eq_true rfl, Nat.le_of_ble_eq_true rfl⟩ dX8_init_5 (fun a1 H hW => ?_)
  have hW : Wd D cc [(h, .inr (8, [.null, .null, .int 0, .int 0, .long 0, .long 0, .int 0])), (a1, .inr (0, [.int 0, .int 0, .int 0, .int 0, .int 0, .int 0, .int 0]))] A s.heap _ _ s := hW
  refine lv_dup hx hb dX8_init_8 rfl ?_
  refine q_IN (pre := [(h, .inr (8, [.null, .null, .int 0, .int 0, .long 0, .long 0, .int 0]))]) hC hO hW (n_X0_init l D cc a1) iX8_11 ⟨Nat.le_of_ble_eq_true rfl, Nat.le_of_ble_eq_true rfl⟩ hl.1 rfl (Nat.le_of_ble_eq_true rfl) ⟨Nat.le_of_ble_eq_true rfl, Nat.le_of_ble_eq_true rfl⟩ dX8_init_9 (fun w2 H locs hR hW => ?_)
  obtain rfl := hR
  have hW : Wd D cc [(h, .inr (8, [.null, .null, .int 0, .int 0, .long 0, .long 0, .int 0])), (a1, .inr (0, [.int 0, .int 0, .int 0, .int 0, .int 0, .int 0, .int 0]))] A s.heap _ _ s := hW
  refine q_putF hC hin hW jX8_12 0 rfl (w2 := [(h, .inr (8, [.ref a1, .null, .int 0, .int 0, .long 0, .long 0, .int 0])), (a1, .inr (0, [.int 0, .int 0, .int 0, .int 0, .int 0, .int 0, .int 0]))]) rfl rfl rfl (Nat.le_of_ble_eq_true rfl) dX8_init_12 (fun H locs hW => ?_)
  refine lv_aload_n hx hb dX8_init_15 rfl (lv_at hl 0 rfl) ?_
  refine q_new hC hW nX8_18 ⟨Nat.le_of_ble_eq_true rfl, Nat.le_of_ble_eq_true rfl⟩ dX8_init_16 (fun a2 H hW => ?_)
  have hW : Wd D cc [(h, .inr (8, [.ref a1, .null, .int 0, .int 0, .long 0, .long 0, .int 0])), (a1, .inr (0, [.int 0, .int 0, .int 0, .int 0, .int 0, .int 0, .int 0])), (a2, .inr (4, [.int 0, .int 0]))] A s.heap _ _ s := hW
  refine lv_dup hx hb dX8_init_19 rfl ?_
  refine q_IN (pre := [(h, .inr (8, [.ref a1, .null, .int 0, .int 0, .long 0, .long 0, .int 0])), (a1, .inr (0, [.int 0, .int 0, .int 0, .int 0, .int 0, .int 0, .int 0]))]) hC hO hW (n_X4_init l D cc a2) iX8_20 ⟨Nat.le_of_ble_eq_true rfl, Nat.le_of_ble_eq_true rfl⟩ hl.1 rfl (Nat.le_of_ble_eq_true rfl) ⟨Nat.le_of_ble_eq_true rfl, Nat.le_of_ble_eq_true rfl⟩ dX8_init_20 (fun w2 H locs hR hW => ?_)
  obtain rfl := hR
  have hW : Wd D cc [(h, .inr (8, [.ref a1, .null, .int 0, .int 0, .long 0, .long 0, .int 0])), (a1, .inr (0, [.int 0, .int 0, .int 0, .int 0, .int 0, .int 0, .int 0])), (a2, .inr (4, [.int 0, .int 0]))] A s.heap _ _ s := hW
  refine q_putF hC hin hW jX8_21 0 rfl (w2 := [(h, .inr (8, [.ref a1, .ref a2, .int 0, .int 0, .long 0, .long 0, .int 0])), (a1, .inr (0, [.int 0, .int 0, .int 0, .int 0, .int 0, .int 0, .int 0])), (a2, .inr (4, [.int 0, .int 0]))]) rfl rfl rfl (Nat.le_of_ble_eq_true rfl) dX8_init_23 (fun H locs hW => ?_)
  exact hend _ _ _ _ _ ⟨a1, a2, rfl⟩ hW dX8_init_26
