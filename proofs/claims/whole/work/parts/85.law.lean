/-! ===== the law ===== -/
set_option maxHeartbeats 4000000 in
set_option maxRecDepth 100000 in
theorem nest_in : ∀ w ∈ nestWs, w ∈ tables_1 := by
  have h : nestWs.map some = [26, 32, 37, 38, 40, 54, 59, 60, 62, 65, 67, 81, 87, 88, 90, 91, 102, 107, 109, 111, 112, 122, 127, 129, 138, 143, 145, 147, 150, 167, 173, 183, 184, 186, 204, 216, 217, 219, 220, 223, 224, 226, 227, 229, 230, 232, 233, 250, 255, 256, 258, 259, 261, 262, 275, 280, 284, 288, 293, 297, 301, 310, 316, 318, 320, 322, 324, 326, 328, 330, 333, 334, 337, 339, 384, 390, 395, 401, 409, 422, 430, 438, 446, 454, 463, 472, 485, 489, 493, 500, 522, 530, 533, 538, 553, 557, 568, 576, 580, 581, 586, 589, 596, 604, 612, 621, 634, 638, 648, 652, 656, 670, 671, 672, 677, 682, 690, 700, 705, 706, 710, 717, 729, 733, 737, 741, 745, 749, 753, 757, 761, 765].map (fun i => tables_1[i]?) := by decide +kernel
  intro w hw
  have h1 : some w ∈ nestWs.map some := List.mem_map.mpr ⟨w, hw, rfl⟩
  rw [h] at h1
  obtain ⟨i, -, hi⟩ := List.mem_map.mp h1
  exact List.mem_of_getElem? hi
set_option maxHeartbeats 4000000 in
set_option maxRecDepth 100000 in
/-- what the law's start gives: the method's facts, the arrays' classes, the classes -/
theorem law_facts {p : Program} {s : State} {m : MethodId} {meth : Method} {c : Code} {b L : Nat} {xs : Nat → Int32} (C0 : lw_At p s m meth c b L xs) : Cx p m c cL_law 4 s #[Value.ref b] RL ∧ AO s ∧ ∃ (D : va_G) (cc : Nat → ClassId), va_K D vwCl (tyL cc) s := by
  obtain ⟨hx, hb, hr, hml, hown, hts, hX, hbl, hlocks, hgv⟩ := C0
  have hg : ∀ w ∈ GW, w.before #[Value.ref b] s = true := fun w hw => hts w (GW_in w hw)
  have h7 : va_AO RX7 s := va_AO.of (hts (.arrayOver (.object RX7)) (List.mem_append_right _ (List.mem_of_getElem? (i := 165) (by decide +kernel))))
  have h8 : va_AO RX8 s := va_AO.of (hts (.arrayOver (.object RX8)) (List.mem_append_right _ (List.mem_of_getElem? (i := 163) (by decide +kernel))))
  refine ⟨⟨⟨hx, hb, hml, hown, hg⟩, fun w hw => va_Nw.of (nest_tab hw) (hts w (List.mem_append_right _ (nest_in w hw)))⟩, ⟨h7, h8⟩, ?_⟩
  obtain ⟨c0, i0, k0⟩ := u_known (C := RX0) (T := TX0) (N := 7) (n := 7) hg uX0 (hg _ (GW_of (i := 172) (by decide +kernel) rfl))
  obtain ⟨c1, i1, k1⟩ := u_known (C := RX1) (T := TX1) (N := 5) (n := 5) hg uX1 (hg _ (GW_of (i := 53) (by decide +kernel) rfl))
  obtain ⟨c2, i2, k2⟩ := u_known (C := RX2) (T := TX2) (N := 5) (n := 5) hg uX2 (hg _ (GW_of (i := 137) (by decide +kernel) rfl))
  obtain ⟨c3, i3, k3⟩ := u_known (C := RX3) (T := TX3) (N := 13) (n := 13) hg uX3 (hg _ (GW_of (i := 25) (by decide +kernel) rfl))
  obtain ⟨c4, i4, k4⟩ := u_known (C := RX4) (T := TX4) (N := 2) (n := 2) hg uX4 (hg _ (GW_of (i := 203) (by decide +kernel) rfl))
  obtain ⟨c5, i5, k5⟩ := u_known (C := RX5) (T := TX5) (N := 2) (n := 2) hg uX5 (hg _ (GW_of (i := 121) (by decide +kernel) rfl))
  obtain ⟨c6, i6, k6⟩ := u_known (C := RX6) (T := TX6) (N := 3) (n := 3) hg uX6 (hg _ (GW_of (i := 101) (by decide +kernel) rfl))
  obtain ⟨c7, i7, k7⟩ := u_known (C := RX7) (T := TX7) (N := 3) (n := 3) hg uX7 (hg _ (GW_of (i := 249) (by decide +kernel) rfl))
  obtain ⟨c8, i8, k8⟩ := u_known (C := RX8) (T := TX8) (N := 7) (n := 7) hg uX8 (hg _ (GW_of (i := 166) (by decide +kernel) rfl))
  obtain ⟨c9, i9, k9⟩ := u_known (C := RX9) (T := TX9) (N := 3) (n := 3) hg uX9 (hg _ (GW_of (i := 80) (by decide +kernel) rfl))
  obtain ⟨c10, i10, k10⟩ := u_known (C := RX10) (T := TX10) (N := 4) (n := 4) hg uX10 (hg _ (GW_of (i := 31) (by decide +kernel) rfl))
  obtain ⟨c11, i11, k11⟩ := u_known (C := RX11) (T := TX11) (N := 2) (n := 2) hg uX11 (hg _ (GW_of (i := 17) (by decide +kernel) rfl))
  obtain ⟨c12, i12, k12⟩ := u_known (C := RX12) (T := TX12) (N := 27) (n := 27) hg uX12 (hg _ (GW_of (i := 774) (by decide +kernel) rfl))
  obtain ⟨q0, z0, y0, f0, g0, e0⟩ := Cond.arrayClass_spec (hts (.arrayClass .int) (List.mem_append_right _ (List.mem_of_getElem? (i := 99) (by decide +kernel))))
  obtain ⟨q1, z1, y1, f1, g1, e1⟩ := Cond.arrayClass_spec (hts (.arrayClass .long) (List.mem_append_right _ (List.mem_of_getElem? (i := 135) (by decide +kernel))))
  obtain ⟨y2, q2, z2, f2, -, g2, e2, n2⟩ := Cond.arrayOver_spec (va_AO.use (A := #[]) h7)
  obtain ⟨y3, q3, z3, f3, -, g3, e3, n3⟩ := Cond.arrayOver_spec (va_AO.use (A := #[]) h8)
  refine ⟨(fun k => [c0, c1, c2, c3, c4, c5, c6, c7, c8, c9, c10, c11, c12].getD k c0, fun k => [i0, i1, i2, i3, i4, i5, i6, i7, i8, i9, i10, i11, i12].getD k i0), fun k => [q0, q1, q2, q3].getD k q0, fun k q hq => ?_, fun k q hq => ?_⟩
  · match k, hq with
    | 0, hq => cases hq; exact k0
    | 1, hq => cases hq; exact k1
    | 2, hq => cases hq; exact k2
    | 3, hq => cases hq; exact k3
    | 4, hq => cases hq; exact k4
    | 5, hq => cases hq; exact k5
    | 6, hq => cases hq; exact k6
    | 7, hq => cases hq; exact k7
    | 8, hq => cases hq; exact k8
    | 9, hq => cases hq; exact k9
    | 10, hq => cases hq; exact k10
    | 11, hq => cases hq; exact k11
    | 12, hq => cases hq; exact k12
    | k + 13, hq => simp [vwCl] at hq
  · match k, hq with
    | 0, hq => cases hq; exact ⟨fun n z => ⟨fun k h => (by cases h), z0, g0, y0, e0⟩, f0⟩
    | 1, hq => cases hq; exact ⟨fun n z => ⟨fun k h => (by cases h), z1, g1, y1, e1⟩, f1⟩
    | 2, hq => cases hq; exact ⟨fun n z => ⟨fun k h => (by cases h), z2, g2, y2, e2⟩, z2, y2, g2, e2, f2, n2⟩
    | 3, hq => cases hq; exact ⟨fun n z => ⟨fun k h => (by cases h), z3, g3, y3, e3⟩, z3, y3, g3, e3, f3, n3⟩
    | k + 4, hq => simp [tyL] at hq
theorem cm_at (cc : Nat → ClassId) (h : Nat) (ad a2 am : Nat → Nat) (S S2 T : St) : ∃ fs, (CW cc h ad a2 S S2 ++ MW cc am T)[81]? = some (am 0, .inr (12, fs)) := by
  have e : (CW cc h ad a2 S S2).length = 81 := by
    unfold CW LW
    rw [List.length_append, List.length_append, List.length_map, List.length_map, List.length_range]
    rfl
  have e2 : (CW cc h ad a2 S S2 ++ MW cc am T)[81]? = (MW cc am T)[0]? := by rw [List.getElem?_append_right (by omega), e]
  exact ⟨_, e2.trans (Mg0 cc am T)⟩
section Law
variable {p : Program} {l : Launch} {e : Env} {s : State} {m : MethodId} {below : List Frame} {meth : Method} {c : Code} {H : Heap} {locs : List Loc} {cells slots : Nat} {Q : State → Prop} {b L : Nat} {xs : Nat → Int32} {D : va_G} {cc : Nat → ClassId} {i : Int32} {h : Nat} {ad a2 am : Nat → Nat} {S S2 T : St} {B : Int} {M : Nat} {ls : Array Slot}
set_option maxHeartbeats 4000000 in
set_option maxRecDepth 100000 in
theorem law_0 (hC : Cx p m c cL_law 4 s #[Value.ref b] RL) (hX : va_X b L xs s s.heap) (hbl : b < s.heap.size) (hcs : cells + 0 ≤ room_1.cells ∧ slots + 0 ≤ room_1.slots) (hv : ∀ k : Nat, k ≤ 6 → vp_in (i + nI k) L) (hJ : JJ S S2 T B M) (hB : 0 ≤ B ∧ B ≤ 199000) (hM : M ≤ 511) (hW : Wd D cc (CW cc h ad a2 S S2 ++ MW cc am T) (fun q : Nat => s.heap.size ≤ q) s.heap H locs s) (hl : lv_has ls 4 [(3, .int i), (0, .ref b), (1, .ref h), (2, .ref (am 0))])
    (kk : ∀ (S1 S3 T1 : St) (H1 : Heap) (locs1 : List Loc), JJ S1 S3 T1 (B + 300) (M + 1) → Wd D cc (CW cc h ad a2 S1 S3 ++ MW cc am T1) (fun q : Nat => s.heap.size ≤ q) s.heap H1 locs1 s → W p l e room_1 s m #[Value.ref b] below meth c H1 locs1 cells slots Q (F0 m 870 ls [])) : W p l e room_1 s m #[Value.ref b] below meth c H locs cells slots Q (F0 m 148 ls []) := by
  obtain ⟨⟨hx, hb, hml, hown, hts⟩, hNW⟩ := id hC
  have hbA : ¬ (fun q : Nat => s.heap.size ≤ q) b := Nat.not_le.mpr hbl
  obtain ⟨r, S1, S3, T1, c1, c2, j⟩ := st_reset l D cc h ad a2 am hJ hB hM (xs (i + 1).toNatClampNeg)
  refine lv_aload_n hx hb dL_law_148 rfl (lv_at hl 2 rfl) ?_
  refine lv_aload_n hx hb dL_law_149 rfl (lv_at hl 1 rfl) ?_
  refine lv_iload_n hx hb dL_law_150 rfl (lv_at hl 0 rfl) ?_
  refine lv_iconst (v := 1) hx hb dL_law_151 (by decide) ?_
  refine lv_iadd hx hb dL_law_152 ?_
  refine va_sld hx hb hX hbl hbA hW.2.2.2.1 (hv 1 (by decide)) dL_law_153 ?_
  refine q_VI hC hW (c1.lift [] (MW cc am T) rfl rfl) mL_13 0 rfl rfl ⟨Nat.le_of_ble_eq_true rfl, Nat.le_of_ble_eq_true rfl⟩ rfl hl.1 rfl (Nat.le_of_ble_eq_true rfl) hcs dL_law_154 (fun H locs hW => ?_)
  refine lv_aload_n hx hb dL_law_157 rfl (lv_at hl 3 rfl) ?_
  refine lv_aload_n hx hb dL_law_158 rfl (lv_at hl 1 rfl) ?_
  refine lv_iload_n hx hb dL_law_159 rfl (lv_at hl 0 rfl) ?_
  refine lv_iconst (v := 1) hx hb dL_law_160 (by decide) ?_
  refine lv_iadd hx hb dL_law_161 ?_
  refine va_sld hx hb hX hbl hbA hW.2.2.2.1 (hv 1 (by decide)) dL_law_162 ?_
  obtain ⟨fs, hfs⟩ := cm_at cc h ad a2 am S1 S3 T
  refine q_VI hC hW (c2.lift (CW cc h ad a2 S1 S3) [] (List.append_nil _).symm (List.append_nil _).symm) mL_17 81 hfs rfl ⟨Nat.le_of_ble_eq_true rfl, Nat.le_of_ble_eq_true rfl⟩ rfl hl.1 rfl (Nat.le_of_ble_eq_true rfl) hcs dL_law_163 (fun H locs hW => ?_)
  exact lv_icmp_eq (tgt := 870) hx hb dL_law_166 (by decide) (fun _ => kk S1 S3 T1 _ _ j hW) (fun c_ => absurd rfl c_)
set_option maxHeartbeats 4000000 in
set_option maxRecDepth 100000 in
theorem law_1 (hC : Cx p m c cL_law 4 s #[Value.ref b] RL) (hX : va_X b L xs s s.heap) (hbl : b < s.heap.size) (hcs : cells + 0 ≤ room_1.cells ∧ slots + 0 ≤ room_1.slots) (hv : ∀ k : Nat, k ≤ 6 → vp_in (i + nI k) L) (hJ : JJ S S2 T B M) (hB : 0 ≤ B ∧ B ≤ 199000) (hM : M ≤ 511) (hW : Wd D cc (CW cc h ad a2 S S2 ++ MW cc am T) (fun q : Nat => s.heap.size ≤ q) s.heap H locs s) (hl : lv_has ls 4 [(3, .int i), (0, .ref b), (1, .ref h), (2, .ref (am 0))])
    (kk : ∀ (S1 S3 T1 : St) (H1 : Heap) (locs1 : List Loc), JJ S1 S3 T1 (B + 300) (M + 1) → Wd D cc (CW cc h ad a2 S1 S3 ++ MW cc am T1) (fun q : Nat => s.heap.size ≤ q) s.heap H1 locs1 s → W p l e room_1 s m #[Value.ref b] below meth c H1 locs1 cells slots Q (F0 m 870 ls [])) : W p l e room_1 s m #[Value.ref b] below meth c H locs cells slots Q (F0 m 171 ls []) := by
  obtain ⟨⟨hx, hb, hml, hown, hts⟩, hNW⟩ := id hC
  have hbA : ¬ (fun q : Nat => s.heap.size ≤ q) b := Nat.not_le.mpr hbl
  obtain ⟨r, S1, S3, T1, c1, c2, j⟩ := st_addSpan l D cc h ad a2 am hJ hB hM (xs (i + 1).toNatClampNeg)
  refine lv_aload_n hx hb dL_law_171 rfl (lv_at hl 2 rfl) ?_
  refine lv_aload_n hx hb dL_law_172 rfl (lv_at hl 1 rfl) ?_
  refine lv_iload_n hx hb dL_law_173 rfl (lv_at hl 0 rfl) ?_
  refine lv_iconst (v := 1) hx hb dL_law_174 (by decide) ?_
  refine lv_iadd hx hb dL_law_175 ?_
  refine va_sld hx hb hX hbl hbA hW.2.2.2.1 (hv 1 (by decide)) dL_law_176 ?_
  refine q_VI hC hW (c1.lift [] (MW cc am T) rfl rfl) mL_18 0 rfl rfl ⟨Nat.le_of_ble_eq_true rfl, Nat.le_of_ble_eq_true rfl⟩ rfl hl.1 rfl (Nat.le_of_ble_eq_true rfl) hcs dL_law_177 (fun H locs hW => ?_)
  refine lv_aload_n hx hb dL_law_180 rfl (lv_at hl 3 rfl) ?_
  refine lv_aload_n hx hb dL_law_181 rfl (lv_at hl 1 rfl) ?_
  refine lv_iload_n hx hb dL_law_182 rfl (lv_at hl 0 rfl) ?_
  refine lv_iconst (v := 1) hx hb dL_law_183 (by decide) ?_
  refine lv_iadd hx hb dL_law_184 ?_
  refine va_sld hx hb hX hbl hbA hW.2.2.2.1 (hv 1 (by decide)) dL_law_185 ?_
  obtain ⟨fs, hfs⟩ := cm_at cc h ad a2 am S1 S3 T
  refine q_VI hC hW (c2.lift (CW cc h ad a2 S1 S3) [] (List.append_nil _).symm (List.append_nil _).symm) mL_21 81 hfs rfl ⟨Nat.le_of_ble_eq_true rfl, Nat.le_of_ble_eq_true rfl⟩ rfl hl.1 rfl (Nat.le_of_ble_eq_true rfl) hcs dL_law_186 (fun H locs hW => ?_)
  exact lv_icmp_eq (tgt := 870) hx hb dL_law_189 (by decide) (fun _ => kk S1 S3 T1 _ _ j hW) (fun c_ => absurd rfl c_)
set_option maxHeartbeats 4000000 in
set_option maxRecDepth 100000 in
theorem law_2 (hC : Cx p m c cL_law 4 s #[Value.ref b] RL) (hX : va_X b L xs s s.heap) (hbl : b < s.heap.size) (hcs : cells + 0 ≤ room_1.cells ∧ slots + 0 ≤ room_1.slots) (hv : ∀ k : Nat, k ≤ 6 → vp_in (i + nI k) L) (hJ : JJ S S2 T B M) (hB : 0 ≤ B ∧ B ≤ 199000) (hM : M ≤ 511) (hW : Wd D cc (CW cc h ad a2 S S2 ++ MW cc am T) (fun q : Nat => s.heap.size ≤ q) s.heap H locs s) (hl : lv_has ls 4 [(3, .int i), (0, .ref b), (1, .ref h), (2, .ref (am 0))])
    (kk : ∀ (S1 S3 T1 : St) (H1 : Heap) (locs1 : List Loc), JJ S1 S3 T1 (B + 300) (M + 1) → Wd D cc (CW cc h ad a2 S1 S3 ++ MW cc am T1) (fun q : Nat => s.heap.size ≤ q) s.heap H1 locs1 s → W p l e room_1 s m #[Value.ref b] below meth c H1 locs1 cells slots Q (F0 m 870 ls [])) : W p l e room_1 s m #[Value.ref b] below meth c H locs cells slots Q (F0 m 194 ls []) := by
  obtain ⟨⟨hx, hb, hml, hown, hts⟩, hNW⟩ := id hC
  have hbA : ¬ (fun q : Nat => s.heap.size ≤ q) b := Nat.not_le.mpr hbl
  obtain ⟨r, S1, S3, T1, c1, c2, j⟩ := st_setDancer l D cc h ad a2 am hJ hB hM (xs (i + 1).toNatClampNeg) (xs (i + 2).toNatClampNeg) (xs (i + 3).toNatClampNeg) (xs (i + 4).toNatClampNeg) (xs (i + 5).toNatClampNeg) (xs (i + 6).toNatClampNeg)
  refine lv_aload_n hx hb dL_law_194 rfl (lv_at hl 2 rfl) ?_
  refine lv_aload_n hx hb dL_law_195 rfl (lv_at hl 1 rfl) ?_
  refine lv_iload_n hx hb dL_law_196 rfl (lv_at hl 0 rfl) ?_
  refine lv_iconst (v := 1) hx hb dL_law_197 (by decide) ?_
  refine lv_iadd hx hb dL_law_198 ?_
  refine va_sld hx hb hX hbl hbA hW.2.2.2.1 (hv 1 (by decide)) dL_law_199 ?_
  refine lv_aload_n hx hb dL_law_200 rfl (lv_at hl 1 rfl) ?_
  refine lv_iload_n hx hb dL_law_201 rfl (lv_at hl 0 rfl) ?_
  refine lv_iconst (v := 2) hx hb dL_law_202 (by decide) ?_
  refine lv_iadd hx hb dL_law_203 ?_
  refine va_sld hx hb hX hbl hbA hW.2.2.2.1 (hv 2 (by decide)) dL_law_204 ?_
  refine lv_aload_n hx hb dL_law_205 rfl (lv_at hl 1 rfl) ?_
  refine lv_iload_n hx hb dL_law_206 rfl (lv_at hl 0 rfl) ?_
  refine lv_iconst (v := 3) hx hb dL_law_207 (by decide) ?_
  refine lv_iadd hx hb dL_law_208 ?_
  refine va_sld hx hb hX hbl hbA hW.2.2.2.1 (hv 3 (by decide)) dL_law_209 ?_
  refine lv_aload_n hx hb dL_law_210 rfl (lv_at hl 1 rfl) ?_
  refine lv_iload_n hx hb dL_law_211 rfl (lv_at hl 0 rfl) ?_
  refine lv_iconst (v := 4) hx hb dL_law_212 (by decide) ?_
  refine lv_iadd hx hb dL_law_213 ?_
  refine va_sld hx hb hX hbl hbA hW.2.2.2.1 (hv 4 (by decide)) dL_law_214 ?_
  refine lv_aload_n hx hb dL_law_215 rfl (lv_at hl 1 rfl) ?_
  refine lv_iload_n hx hb dL_law_216 rfl (lv_at hl 0 rfl) ?_
  refine lv_iconst (v := 5) hx hb dL_law_217 (by decide) ?_
  refine lv_iadd hx hb dL_law_218 ?_
  refine va_sld hx hb hX hbl hbA hW.2.2.2.1 (hv 5 (by decide)) dL_law_219 ?_
  refine lv_aload_n hx hb dL_law_220 rfl (lv_at hl 1 rfl) ?_
  refine lv_iload_n hx hb dL_law_221 rfl (lv_at hl 0 rfl) ?_
  refine lv_bipush (v := 6) hx hb dL_law_222 (by decide) ?_
  refine lv_iadd hx hb dL_law_224 ?_
  refine va_sld hx hb hX hbl hbA hW.2.2.2.1 (hv 6 (by decide)) dL_law_225 ?_
  refine q_VI hC hW (c1.lift [] (MW cc am T) rfl rfl) mL_22 0 rfl rfl ⟨Nat.le_of_ble_eq_true rfl, Nat.le_of_ble_eq_true rfl⟩ rfl hl.1 rfl (Nat.le_of_ble_eq_true rfl) hcs dL_law_226 (fun H locs hW => ?_)
  refine lv_aload_n hx hb dL_law_229 rfl (lv_at hl 3 rfl) ?_
  refine lv_aload_n hx hb dL_law_230 rfl (lv_at hl 1 rfl) ?_
  refine lv_iload_n hx hb dL_law_231 rfl (lv_at hl 0 rfl) ?_
  refine lv_iconst (v := 1) hx hb dL_law_232 (by decide) ?_
  refine lv_iadd hx hb dL_law_233 ?_
  refine va_sld hx hb hX hbl hbA hW.2.2.2.1 (hv 1 (by decide)) dL_law_234 ?_
  refine lv_aload_n hx hb dL_law_235 rfl (lv_at hl 1 rfl) ?_
  refine lv_iload_n hx hb dL_law_236 rfl (lv_at hl 0 rfl) ?_
  refine lv_iconst (v := 2) hx hb dL_law_237 (by decide) ?_
  refine lv_iadd hx hb dL_law_238 ?_
  refine va_sld hx hb hX hbl hbA hW.2.2.2.1 (hv 2 (by decide)) dL_law_239 ?_
  refine lv_aload_n hx hb dL_law_240 rfl (lv_at hl 1 rfl) ?_
  refine lv_iload_n hx hb dL_law_241 rfl (lv_at hl 0 rfl) ?_
  refine lv_iconst (v := 3) hx hb dL_law_242 (by decide) ?_
  refine lv_iadd hx hb dL_law_243 ?_
  refine va_sld hx hb hX hbl hbA hW.2.2.2.1 (hv 3 (by decide)) dL_law_244 ?_
  refine lv_aload_n hx hb dL_law_245 rfl (lv_at hl 1 rfl) ?_
  refine lv_iload_n hx hb dL_law_246 rfl (lv_at hl 0 rfl) ?_
  refine lv_iconst (v := 4) hx hb dL_law_247 (by decide) ?_
  refine lv_iadd hx hb dL_law_248 ?_
  refine va_sld hx hb hX hbl hbA hW.2.2.2.1 (hv 4 (by decide)) dL_law_249 ?_
  refine lv_aload_n hx hb dL_law_250 rfl (lv_at hl 1 rfl) ?_
  refine lv_iload_n hx hb dL_law_251 rfl (lv_at hl 0 rfl) ?_
  refine lv_iconst (v := 5) hx hb dL_law_252 (by decide) ?_
  refine lv_iadd hx hb dL_law_253 ?_
  refine va_sld hx hb hX hbl hbA hW.2.2.2.1 (hv 5 (by decide)) dL_law_254 ?_
  refine lv_aload_n hx hb dL_law_255 rfl (lv_at hl 1 rfl) ?_
  refine lv_iload_n hx hb dL_law_256 rfl (lv_at hl 0 rfl) ?_
  refine lv_bipush (v := 6) hx hb dL_law_257 (by decide) ?_
  refine lv_iadd hx hb dL_law_259 ?_
  refine va_sld hx hb hX hbl hbA hW.2.2.2.1 (hv 6 (by decide)) dL_law_260 ?_
  obtain ⟨fs, hfs⟩ := cm_at cc h ad a2 am S1 S3 T
  refine q_VI hC hW (c2.lift (CW cc h ad a2 S1 S3) [] (List.append_nil _).symm (List.append_nil _).symm) mL_26 81 hfs rfl ⟨Nat.le_of_ble_eq_true rfl, Nat.le_of_ble_eq_true rfl⟩ rfl hl.1 rfl (Nat.le_of_ble_eq_true rfl) hcs dL_law_261 (fun H locs hW => ?_)
  exact lv_icmp_eq (tgt := 870) hx hb dL_law_264 (by decide) (fun _ => kk S1 S3 T1 _ _ j hW) (fun c_ => absurd rfl c_)
set_option maxHeartbeats 4000000 in
set_option maxRecDepth 100000 in
theorem law_3 (hC : Cx p m c cL_law 4 s #[Value.ref b] RL) (hX : va_X b L xs s s.heap) (hbl : b < s.heap.size) (hcs : cells + 0 ≤ room_1.cells ∧ slots + 0 ≤ room_1.slots) (hv : ∀ k : Nat, k ≤ 6 → vp_in (i + nI k) L) (hJ : JJ S S2 T B M) (hB : 0 ≤ B ∧ B ≤ 199000) (hM : M ≤ 511) (hW : Wd D cc (CW cc h ad a2 S S2 ++ MW cc am T) (fun q : Nat => s.heap.size ≤ q) s.heap H locs s) (hl : lv_has ls 4 [(3, .int i), (0, .ref b), (1, .ref h), (2, .ref (am 0))])
    (kk : ∀ (S1 S3 T1 : St) (H1 : Heap) (locs1 : List Loc), JJ S1 S3 T1 (B + 300) (M + 1) → Wd D cc (CW cc h ad a2 S1 S3 ++ MW cc am T1) (fun q : Nat => s.heap.size ≤ q) s.heap H1 locs1 s → W p l e room_1 s m #[Value.ref b] below meth c H1 locs1 cells slots Q (F0 m 870 ls [])) : W p l e room_1 s m #[Value.ref b] below meth c H locs cells slots Q (F0 m 269 ls []) := by
  obtain ⟨⟨hx, hb, hml, hown, hts⟩, hNW⟩ := id hC
  have hbA : ¬ (fun q : Nat => s.heap.size ≤ q) b := Nat.not_le.mpr hbl
  obtain ⟨r, S1, S3, T1, c1, c2, j⟩ := st_setLoadCell l D cc h ad a2 am hJ hB hM (xs (i + 1).toNatClampNeg) (xs (i + 2).toNatClampNeg) (xs (i + 3).toNatClampNeg)
  refine lv_aload_n hx hb dL_law_269 rfl (lv_at hl 2 rfl) ?_
  refine lv_aload_n hx hb dL_law_270 rfl (lv_at hl 1 rfl) ?_
  refine lv_iload_n hx hb dL_law_271 rfl (lv_at hl 0 rfl) ?_
  refine lv_iconst (v := 1) hx hb dL_law_272 (by decide) ?_
  refine lv_iadd hx hb dL_law_273 ?_
  refine va_sld hx hb hX hbl hbA hW.2.2.2.1 (hv 1 (by decide)) dL_law_274 ?_
  refine lv_aload_n hx hb dL_law_275 rfl (lv_at hl 1 rfl) ?_
  refine lv_iload_n hx hb dL_law_276 rfl (lv_at hl 0 rfl) ?_
  refine lv_iconst (v := 2) hx hb dL_law_277 (by decide) ?_
  refine lv_iadd hx hb dL_law_278 ?_
  refine va_sld hx hb hX hbl hbA hW.2.2.2.1 (hv 2 (by decide)) dL_law_279 ?_
  refine lv_aload_n hx hb dL_law_280 rfl (lv_at hl 1 rfl) ?_
  refine lv_iload_n hx hb dL_law_281 rfl (lv_at hl 0 rfl) ?_
  refine lv_iconst (v := 3) hx hb dL_law_282 (by decide) ?_
  refine lv_iadd hx hb dL_law_283 ?_
  refine va_sld hx hb hX hbl hbA hW.2.2.2.1 (hv 3 (by decide)) dL_law_284 ?_
  refine q_VI hC hW (c1.lift [] (MW cc am T) rfl rfl) mL_27 0 rfl rfl ⟨Nat.le_of_ble_eq_true rfl, Nat.le_of_ble_eq_true rfl⟩ rfl hl.1 rfl (Nat.le_of_ble_eq_true rfl) hcs dL_law_285 (fun H locs hW => ?_)
  refine lv_aload_n hx hb dL_law_288 rfl (lv_at hl 3 rfl) ?_
  refine lv_aload_n hx hb dL_law_289 rfl (lv_at hl 1 rfl) ?_
  refine lv_iload_n hx hb dL_law_290 rfl (lv_at hl 0 rfl) ?_
  refine lv_iconst (v := 1) hx hb dL_law_291 (by decide) ?_
  refine lv_iadd hx hb dL_law_292 ?_
  refine va_sld hx hb hX hbl hbA hW.2.2.2.1 (hv 1 (by decide)) dL_law_293 ?_
  refine lv_aload_n hx hb dL_law_294 rfl (lv_at hl 1 rfl) ?_
  refine lv_iload_n hx hb dL_law_295 rfl (lv_at hl 0 rfl) ?_
  refine lv_iconst (v := 2) hx hb dL_law_296 (by decide) ?_
  refine lv_iadd hx hb dL_law_297 ?_
  refine va_sld hx hb hX hbl hbA hW.2.2.2.1 (hv 2 (by decide)) dL_law_298 ?_
  refine lv_aload_n hx hb dL_law_299 rfl (lv_at hl 1 rfl) ?_
  refine lv_iload_n hx hb dL_law_300 rfl (lv_at hl 0 rfl) ?_
  refine lv_iconst (v := 3) hx hb dL_law_301 (by decide) ?_
  refine lv_iadd hx hb dL_law_302 ?_
  refine va_sld hx hb hX hbl hbA hW.2.2.2.1 (hv 3 (by decide)) dL_law_303 ?_
  obtain ⟨fs, hfs⟩ := cm_at cc h ad a2 am S1 S3 T
  refine q_VI hC hW (c2.lift (CW cc h ad a2 S1 S3) [] (List.append_nil _).symm (List.append_nil _).symm) mL_31 81 hfs rfl ⟨Nat.le_of_ble_eq_true rfl, Nat.le_of_ble_eq_true rfl⟩ rfl hl.1 rfl (Nat.le_of_ble_eq_true rfl) hcs dL_law_304 (fun H locs hW => ?_)
  exact lv_icmp_eq (tgt := 870) hx hb dL_law_307 (by decide) (fun _ => kk S1 S3 T1 _ _ j hW) (fun c_ => absurd rfl c_)
set_option maxHeartbeats 4000000 in
set_option maxRecDepth 100000 in
theorem law_4 (hC : Cx p m c cL_law 4 s #[Value.ref b] RL) (hX : va_X b L xs s s.heap) (hbl : b < s.heap.size) (hcs : cells + 0 ≤ room_1.cells ∧ slots + 0 ≤ room_1.slots) (hv : ∀ k : Nat, k ≤ 6 → vp_in (i + nI k) L) (hJ : JJ S S2 T B M) (hB : 0 ≤ B ∧ B ≤ 199000) (hM : M ≤ 511) (hW : Wd D cc (CW cc h ad a2 S S2 ++ MW cc am T) (fun q : Nat => s.heap.size ≤ q) s.heap H locs s) (hl : lv_has ls 4 [(3, .int i), (0, .ref b), (1, .ref h), (2, .ref (am 0))])
    (kk : ∀ (S1 S3 T1 : St) (H1 : Heap) (locs1 : List Loc), JJ S1 S3 T1 (B + 300) (M + 1) → Wd D cc (CW cc h ad a2 S1 S3 ++ MW cc am T1) (fun q : Nat => s.heap.size ≤ q) s.heap H1 locs1 s → W p l e room_1 s m #[Value.ref b] below meth c H1 locs1 cells slots Q (F0 m 870 ls [])) : W p l e room_1 s m #[Value.ref b] below meth c H locs cells slots Q (F0 m 312 ls []) := by
  obtain ⟨⟨hx, hb, hml, hown, hts⟩, hNW⟩ := id hC
  have hbA : ¬ (fun q : Nat => s.heap.size ≤ q) b := Nat.not_le.mpr hbl
  obtain ⟨r, S1, S3, T1, c1, c2, j⟩ := st_setWeb l D cc h ad a2 am hJ hB hM (xs (i + 1).toNatClampNeg) (xs (i + 2).toNatClampNeg)
  refine lv_aload_n hx hb dL_law_312 rfl (lv_at hl 2 rfl) ?_
  refine lv_aload_n hx hb dL_law_313 rfl (lv_at hl 1 rfl) ?_
  refine lv_iload_n hx hb dL_law_314 rfl (lv_at hl 0 rfl) ?_
  refine lv_iconst (v := 1) hx hb dL_law_315 (by decide) ?_
  refine lv_iadd hx hb dL_law_316 ?_
  refine va_sld hx hb hX hbl hbA hW.2.2.2.1 (hv 1 (by decide)) dL_law_317 ?_
  refine lv_aload_n hx hb dL_law_318 rfl (lv_at hl 1 rfl) ?_
  refine lv_iload_n hx hb dL_law_319 rfl (lv_at hl 0 rfl) ?_
  refine lv_iconst (v := 2) hx hb dL_law_320 (by decide) ?_
  refine lv_iadd hx hb dL_law_321 ?_
  refine va_sld hx hb hX hbl hbA hW.2.2.2.1 (hv 2 (by decide)) dL_law_322 ?_
  refine q_VI hC hW (c1.lift [] (MW cc am T) rfl rfl) mL_32 0 rfl rfl ⟨Nat.le_of_ble_eq_true rfl, Nat.le_of_ble_eq_true rfl⟩ rfl hl.1 rfl (Nat.le_of_ble_eq_true rfl) hcs dL_law_323 (fun H locs hW => ?_)
  refine lv_aload_n hx hb dL_law_326 rfl (lv_at hl 3 rfl) ?_
  refine lv_aload_n hx hb dL_law_327 rfl (lv_at hl 1 rfl) ?_
  refine lv_iload_n hx hb dL_law_328 rfl (lv_at hl 0 rfl) ?_
  refine lv_iconst (v := 1) hx hb dL_law_329 (by decide) ?_
  refine lv_iadd hx hb dL_law_330 ?_
  refine va_sld hx hb hX hbl hbA hW.2.2.2.1 (hv 1 (by decide)) dL_law_331 ?_
  refine lv_aload_n hx hb dL_law_332 rfl (lv_at hl 1 rfl) ?_
  refine lv_iload_n hx hb dL_law_333 rfl (lv_at hl 0 rfl) ?_
  refine lv_iconst (v := 2) hx hb dL_law_334 (by decide) ?_
  refine lv_iadd hx hb dL_law_335 ?_
  refine va_sld hx hb hX hbl hbA hW.2.2.2.1 (hv 2 (by decide)) dL_law_336 ?_
  obtain ⟨fs, hfs⟩ := cm_at cc h ad a2 am S1 S3 T
  refine q_VI hC hW (c2.lift (CW cc h ad a2 S1 S3) [] (List.append_nil _).symm (List.append_nil _).symm) mL_36 81 hfs rfl ⟨Nat.le_of_ble_eq_true rfl, Nat.le_of_ble_eq_true rfl⟩ rfl hl.1 rfl (Nat.le_of_ble_eq_true rfl) hcs dL_law_337 (fun H locs hW => ?_)
  exact lv_icmp_eq (tgt := 870) hx hb dL_law_340 (by decide) (fun _ => kk S1 S3 T1 _ _ j hW) (fun c_ => absurd rfl c_)
set_option maxHeartbeats 4000000 in
set_option maxRecDepth 100000 in
theorem law_5 (hC : Cx p m c cL_law 4 s #[Value.ref b] RL) (hX : va_X b L xs s s.heap) (hbl : b < s.heap.size) (hcs : cells + 0 ≤ room_1.cells ∧ slots + 0 ≤ room_1.slots) (hv : ∀ k : Nat, k ≤ 6 → vp_in (i + nI k) L) (hJ : JJ S S2 T B M) (hB : 0 ≤ B ∧ B ≤ 199000) (hM : M ≤ 511) (hW : Wd D cc (CW cc h ad a2 S S2 ++ MW cc am T) (fun q : Nat => s.heap.size ≤ q) s.heap H locs s) (hl : lv_has ls 4 [(3, .int i), (0, .ref b), (1, .ref h), (2, .ref (am 0))])
    (kk : ∀ (S1 S3 T1 : St) (H1 : Heap) (locs1 : List Loc), JJ S1 S3 T1 (B + 300) (M + 1) → Wd D cc (CW cc h ad a2 S1 S3 ++ MW cc am T1) (fun q : Nat => s.heap.size ≤ q) s.heap H1 locs1 s → W p l e room_1 s m #[Value.ref b] below meth c H1 locs1 cells slots Q (F0 m 870 ls [])) : W p l e room_1 s m #[Value.ref b] below meth c H locs cells slots Q (F0 m 345 ls []) := by
  obtain ⟨⟨hx, hb, hml, hown, hts⟩, hNW⟩ := id hC
  have hbA : ¬ (fun q : Nat => s.heap.size ≤ q) b := Nat.not_le.mpr hbl
  obtain ⟨r, S1, S3, T1, c1, c2, j⟩ := st_setStrength l D cc h ad a2 am hJ hB hM (xs (i + 1).toNatClampNeg) (xs (i + 2).toNatClampNeg)
  refine lv_aload_n hx hb dL_law_345 rfl (lv_at hl 2 rfl) ?_
  refine lv_aload_n hx hb dL_law_346 rfl (lv_at hl 1 rfl) ?_
  refine lv_iload_n hx hb dL_law_347 rfl (lv_at hl 0 rfl) ?_
  refine lv_iconst (v := 1) hx hb dL_law_348 (by decide) ?_
  refine lv_iadd hx hb dL_law_349 ?_
  refine va_sld hx hb hX hbl hbA hW.2.2.2.1 (hv 1 (by decide)) dL_law_350 ?_
  refine lv_aload_n hx hb dL_law_351 rfl (lv_at hl 1 rfl) ?_
  refine lv_iload_n hx hb dL_law_352 rfl (lv_at hl 0 rfl) ?_
  refine lv_iconst (v := 2) hx hb dL_law_353 (by decide) ?_
  refine lv_iadd hx hb dL_law_354 ?_
  refine va_sld hx hb hX hbl hbA hW.2.2.2.1 (hv 2 (by decide)) dL_law_355 ?_
  refine q_VI hC hW (c1.lift [] (MW cc am T) rfl rfl) mL_37 0 rfl rfl ⟨Nat.le_of_ble_eq_true rfl, Nat.le_of_ble_eq_true rfl⟩ rfl hl.1 rfl (Nat.le_of_ble_eq_true rfl) hcs dL_law_356 (fun H locs hW => ?_)
  refine lv_aload_n hx hb dL_law_359 rfl (lv_at hl 3 rfl) ?_
  refine lv_aload_n hx hb dL_law_360 rfl (lv_at hl 1 rfl) ?_
  refine lv_iload_n hx hb dL_law_361 rfl (lv_at hl 0 rfl) ?_
  refine lv_iconst (v := 1) hx hb dL_law_362 (by decide) ?_
  refine lv_iadd hx hb dL_law_363 ?_
  refine va_sld hx hb hX hbl hbA hW.2.2.2.1 (hv 1 (by decide)) dL_law_364 ?_
  refine lv_aload_n hx hb dL_law_365 rfl (lv_at hl 1 rfl) ?_
  refine lv_iload_n hx hb dL_law_366 rfl (lv_at hl 0 rfl) ?_
  refine lv_iconst (v := 2) hx hb dL_law_367 (by decide) ?_
  refine lv_iadd hx hb dL_law_368 ?_
  refine va_sld hx hb hX hbl hbA hW.2.2.2.1 (hv 2 (by decide)) dL_law_369 ?_
  obtain ⟨fs, hfs⟩ := cm_at cc h ad a2 am S1 S3 T
  refine q_VI hC hW (c2.lift (CW cc h ad a2 S1 S3) [] (List.append_nil _).symm (List.append_nil _).symm) mL_40 81 hfs rfl ⟨Nat.le_of_ble_eq_true rfl, Nat.le_of_ble_eq_true rfl⟩ rfl hl.1 rfl (Nat.le_of_ble_eq_true rfl) hcs dL_law_370 (fun H locs hW => ?_)
  exact lv_icmp_eq (tgt := 870) hx hb dL_law_373 (by decide) (fun _ => kk S1 S3 T1 _ _ j hW) (fun c_ => absurd rfl c_)
set_option maxHeartbeats 4000000 in
set_option maxRecDepth 100000 in
theorem law_6 (hC : Cx p m c cL_law 4 s #[Value.ref b] RL) (hX : va_X b L xs s s.heap) (hbl : b < s.heap.size) (hcs : cells + 0 ≤ room_1.cells ∧ slots + 0 ≤ room_1.slots) (hv : ∀ k : Nat, k ≤ 6 → vp_in (i + nI k) L) (hJ : JJ S S2 T B M) (hB : 0 ≤ B ∧ B ≤ 199000) (hM : M ≤ 511) (hW : Wd D cc (CW cc h ad a2 S S2 ++ MW cc am T) (fun q : Nat => s.heap.size ≤ q) s.heap H locs s) (hl : lv_has ls 4 [(3, .int i), (0, .ref b), (1, .ref h), (2, .ref (am 0))])
    (kk : ∀ (S1 S3 T1 : St) (H1 : Heap) (locs1 : List Loc), JJ S1 S3 T1 (B + 300) (M + 1) → Wd D cc (CW cc h ad a2 S1 S3 ++ MW cc am T1) (fun q : Nat => s.heap.size ≤ q) s.heap H1 locs1 s → W p l e room_1 s m #[Value.ref b] below meth c H1 locs1 cells slots Q (F0 m 870 ls [])) : W p l e room_1 s m #[Value.ref b] below meth c H locs cells slots Q (F0 m 378 ls []) := by
  obtain ⟨⟨hx, hb, hml, hown, hts⟩, hNW⟩ := id hC
  have hbA : ¬ (fun q : Nat => s.heap.size ≤ q) b := Nat.not_le.mpr hbl
  obtain ⟨r, S1, S3, T1, c1, c2, j⟩ := st_setDraw l D cc h ad a2 am hJ hB hM (xs (i + 1).toNatClampNeg) (xs (i + 2).toNatClampNeg)
  refine lv_aload_n hx hb dL_law_378 rfl (lv_at hl 2 rfl) ?_
  refine lv_aload_n hx hb dL_law_379 rfl (lv_at hl 1 rfl) ?_
  refine lv_iload_n hx hb dL_law_380 rfl (lv_at hl 0 rfl) ?_
  refine lv_iconst (v := 1) hx hb dL_law_381 (by decide) ?_
  refine lv_iadd hx hb dL_law_382 ?_
  refine va_sld hx hb hX hbl hbA hW.2.2.2.1 (hv 1 (by decide)) dL_law_383 ?_
  refine lv_aload_n hx hb dL_law_384 rfl (lv_at hl 1 rfl) ?_
  refine lv_iload_n hx hb dL_law_385 rfl (lv_at hl 0 rfl) ?_
  refine lv_iconst (v := 2) hx hb dL_law_386 (by decide) ?_
  refine lv_iadd hx hb dL_law_387 ?_
  refine va_sld hx hb hX hbl hbA hW.2.2.2.1 (hv 2 (by decide)) dL_law_388 ?_
  refine q_VI hC hW (c1.lift [] (MW cc am T) rfl rfl) mL_41 0 rfl rfl ⟨Nat.le_of_ble_eq_true rfl, Nat.le_of_ble_eq_true rfl⟩ rfl hl.1 rfl (Nat.le_of_ble_eq_true rfl) hcs dL_law_389 (fun H locs hW => ?_)
  refine lv_aload_n hx hb dL_law_392 rfl (lv_at hl 3 rfl) ?_
  refine lv_aload_n hx hb dL_law_393 rfl (lv_at hl 1 rfl) ?_
  refine lv_iload_n hx hb dL_law_394 rfl (lv_at hl 0 rfl) ?_
  refine lv_iconst (v := 1) hx hb dL_law_395 (by decide) ?_
  refine lv_iadd hx hb dL_law_396 ?_
  refine va_sld hx hb hX hbl hbA hW.2.2.2.1 (hv 1 (by decide)) dL_law_397 ?_
  refine lv_aload_n hx hb dL_law_398 rfl (lv_at hl 1 rfl) ?_
  refine lv_iload_n hx hb dL_law_399 rfl (lv_at hl 0 rfl) ?_
  refine lv_iconst (v := 2) hx hb dL_law_400 (by decide) ?_
  refine lv_iadd hx hb dL_law_401 ?_
  refine va_sld hx hb hX hbl hbA hW.2.2.2.1 (hv 2 (by decide)) dL_law_402 ?_
  obtain ⟨fs, hfs⟩ := cm_at cc h ad a2 am S1 S3 T
  refine q_VI hC hW (c2.lift (CW cc h ad a2 S1 S3) [] (List.append_nil _).symm (List.append_nil _).symm) mL_44 81 hfs rfl ⟨Nat.le_of_ble_eq_true rfl, Nat.le_of_ble_eq_true rfl⟩ rfl hl.1 rfl (Nat.le_of_ble_eq_true rfl) hcs dL_law_403 (fun H locs hW => ?_)
  exact lv_icmp_eq (tgt := 870) hx hb dL_law_406 (by decide) (fun _ => kk S1 S3 T1 _ _ j hW) (fun c_ => absurd rfl c_)
set_option maxHeartbeats 4000000 in
set_option maxRecDepth 100000 in
theorem law_7 (hC : Cx p m c cL_law 4 s #[Value.ref b] RL) (hX : va_X b L xs s s.heap) (hbl : b < s.heap.size) (hcs : cells + 0 ≤ room_1.cells ∧ slots + 0 ≤ room_1.slots) (hv : ∀ k : Nat, k ≤ 6 → vp_in (i + nI k) L) (hJ : JJ S S2 T B M) (hB : 0 ≤ B ∧ B ≤ 199000) (hM : M ≤ 511) (hW : Wd D cc (CW cc h ad a2 S S2 ++ MW cc am T) (fun q : Nat => s.heap.size ≤ q) s.heap H locs s) (hl : lv_has ls 4 [(3, .int i), (0, .ref b), (1, .ref h), (2, .ref (am 0))])
    (kk : ∀ (S1 S3 T1 : St) (H1 : Heap) (locs1 : List Loc), JJ S1 S3 T1 (B + 300) (M + 1) → Wd D cc (CW cc h ad a2 S1 S3 ++ MW cc am T1) (fun q : Nat => s.heap.size ≤ q) s.heap H1 locs1 s → W p l e room_1 s m #[Value.ref b] below meth c H1 locs1 cells slots Q (F0 m 870 ls [])) : W p l e room_1 s m #[Value.ref b] below meth c H locs cells slots Q (F0 m 411 ls []) := by
  obtain ⟨⟨hx, hb, hml, hown, hts⟩, hNW⟩ := id hC
  have hbA : ¬ (fun q : Nat => s.heap.size ≤ q) b := Nat.not_le.mpr hbl
  obtain ⟨r, S1, S3, T1, c1, c2, j⟩ := st_setSpeed l D cc h ad a2 am hJ hB hM (xs (i + 1).toNatClampNeg) (xs (i + 2).toNatClampNeg)
  refine lv_aload_n hx hb dL_law_411 rfl (lv_at hl 2 rfl) ?_
  refine lv_aload_n hx hb dL_law_412 rfl (lv_at hl 1 rfl) ?_
  refine lv_iload_n hx hb dL_law_413 rfl (lv_at hl 0 rfl) ?_
  refine lv_iconst (v := 1) hx hb dL_law_414 (by decide) ?_
  refine lv_iadd hx hb dL_law_415 ?_
  refine va_sld hx hb hX hbl hbA hW.2.2.2.1 (hv 1 (by decide)) dL_law_416 ?_
  refine lv_aload_n hx hb dL_law_417 rfl (lv_at hl 1 rfl) ?_
  refine lv_iload_n hx hb dL_law_418 rfl (lv_at hl 0 rfl) ?_
  refine lv_iconst (v := 2) hx hb dL_law_419 (by decide) ?_
  refine lv_iadd hx hb dL_law_420 ?_
  refine va_sld hx hb hX hbl hbA hW.2.2.2.1 (hv 2 (by decide)) dL_law_421 ?_
  refine q_VI hC hW (c1.lift [] (MW cc am T) rfl rfl) mL_45 0 rfl rfl ⟨Nat.le_of_ble_eq_true rfl, Nat.le_of_ble_eq_true rfl⟩ rfl hl.1 rfl (Nat.le_of_ble_eq_true rfl) hcs dL_law_422 (fun H locs hW => ?_)
  refine lv_aload_n hx hb dL_law_425 rfl (lv_at hl 3 rfl) ?_
  refine lv_aload_n hx hb dL_law_426 rfl (lv_at hl 1 rfl) ?_
  refine lv_iload_n hx hb dL_law_427 rfl (lv_at hl 0 rfl) ?_
  refine lv_iconst (v := 1) hx hb dL_law_428 (by decide) ?_
  refine lv_iadd hx hb dL_law_429 ?_
  refine va_sld hx hb hX hbl hbA hW.2.2.2.1 (hv 1 (by decide)) dL_law_430 ?_
  refine lv_aload_n hx hb dL_law_431 rfl (lv_at hl 1 rfl) ?_
  refine lv_iload_n hx hb dL_law_432 rfl (lv_at hl 0 rfl) ?_
  refine lv_iconst (v := 2) hx hb dL_law_433 (by decide) ?_
  refine lv_iadd hx hb dL_law_434 ?_
  refine va_sld hx hb hX hbl hbA hW.2.2.2.1 (hv 2 (by decide)) dL_law_435 ?_
  obtain ⟨fs, hfs⟩ := cm_at cc h ad a2 am S1 S3 T
  refine q_VI hC hW (c2.lift (CW cc h ad a2 S1 S3) [] (List.append_nil _).symm (List.append_nil _).symm) mL_48 81 hfs rfl ⟨Nat.le_of_ble_eq_true rfl, Nat.le_of_ble_eq_true rfl⟩ rfl hl.1 rfl (Nat.le_of_ble_eq_true rfl) hcs dL_law_436 (fun H locs hW => ?_)
  exact lv_icmp_eq (tgt := 870) hx hb dL_law_439 (by decide) (fun _ => kk S1 S3 T1 _ _ j hW) (fun c_ => absurd rfl c_)
set_option maxHeartbeats 4000000 in
set_option maxRecDepth 100000 in
theorem law_8 (hC : Cx p m c cL_law 4 s #[Value.ref b] RL) (hX : va_X b L xs s s.heap) (hbl : b < s.heap.size) (hcs : cells + 0 ≤ room_1.cells ∧ slots + 0 ≤ room_1.slots) (hv : ∀ k : Nat, k ≤ 6 → vp_in (i + nI k) L) (hJ : JJ S S2 T B M) (hB : 0 ≤ B ∧ B ≤ 199000) (hM : M ≤ 511) (hW : Wd D cc (CW cc h ad a2 S S2 ++ MW cc am T) (fun q : Nat => s.heap.size ≤ q) s.heap H locs s) (hl : lv_has ls 4 [(3, .int i), (0, .ref b), (1, .ref h), (2, .ref (am 0))])
    (kk : ∀ (S1 S3 T1 : St) (H1 : Heap) (locs1 : List Loc), JJ S1 S3 T1 (B + 300) (M + 1) → Wd D cc (CW cc h ad a2 S1 S3 ++ MW cc am T1) (fun q : Nat => s.heap.size ≤ q) s.heap H1 locs1 s → W p l e room_1 s m #[Value.ref b] below meth c H1 locs1 cells slots Q (F0 m 870 ls [])) : W p l e room_1 s m #[Value.ref b] below meth c H locs cells slots Q (F0 m 444 ls []) := by
  obtain ⟨⟨hx, hb, hml, hown, hts⟩, hNW⟩ := id hC
  have hbA : ¬ (fun q : Nat => s.heap.size ≤ q) b := Nat.not_le.mpr hbl
  obtain ⟨r, S1, S3, T1, c1, c2, j⟩ := st_setSplicing l D cc h ad a2 am hJ hB hM (xs (i + 1).toNatClampNeg) (xs (i + 2).toNatClampNeg)
  refine lv_aload_n hx hb dL_law_444 rfl (lv_at hl 2 rfl) ?_
  refine lv_aload_n hx hb dL_law_445 rfl (lv_at hl 1 rfl) ?_
  refine lv_iload_n hx hb dL_law_446 rfl (lv_at hl 0 rfl) ?_
  refine lv_iconst (v := 1) hx hb dL_law_447 (by decide) ?_
  refine lv_iadd hx hb dL_law_448 ?_
  refine va_sld hx hb hX hbl hbA hW.2.2.2.1 (hv 1 (by decide)) dL_law_449 ?_
  refine lv_aload_n hx hb dL_law_450 rfl (lv_at hl 1 rfl) ?_
  refine lv_iload_n hx hb dL_law_451 rfl (lv_at hl 0 rfl) ?_
  refine lv_iconst (v := 2) hx hb dL_law_452 (by decide) ?_
  refine lv_iadd hx hb dL_law_453 ?_
  refine va_sld hx hb hX hbl hbA hW.2.2.2.1 (hv 2 (by decide)) dL_law_454 ?_
  refine q_VI hC hW (c1.lift [] (MW cc am T) rfl rfl) mL_49 0 rfl rfl ⟨Nat.le_of_ble_eq_true rfl, Nat.le_of_ble_eq_true rfl⟩ rfl hl.1 rfl (Nat.le_of_ble_eq_true rfl) hcs dL_law_455 (fun H locs hW => ?_)
  refine lv_aload_n hx hb dL_law_458 rfl (lv_at hl 3 rfl) ?_
  refine lv_aload_n hx hb dL_law_459 rfl (lv_at hl 1 rfl) ?_
  refine lv_iload_n hx hb dL_law_460 rfl (lv_at hl 0 rfl) ?_
  refine lv_iconst (v := 1) hx hb dL_law_461 (by decide) ?_
  refine lv_iadd hx hb dL_law_462 ?_
  refine va_sld hx hb hX hbl hbA hW.2.2.2.1 (hv 1 (by decide)) dL_law_463 ?_
  refine lv_aload_n hx hb dL_law_464 rfl (lv_at hl 1 rfl) ?_
  refine lv_iload_n hx hb dL_law_465 rfl (lv_at hl 0 rfl) ?_
  refine lv_iconst (v := 2) hx hb dL_law_466 (by decide) ?_
  refine lv_iadd hx hb dL_law_467 ?_
  refine va_sld hx hb hX hbl hbA hW.2.2.2.1 (hv 2 (by decide)) dL_law_468 ?_
  obtain ⟨fs, hfs⟩ := cm_at cc h ad a2 am S1 S3 T
  refine q_VI hC hW (c2.lift (CW cc h ad a2 S1 S3) [] (List.append_nil _).symm (List.append_nil _).symm) mL_52 81 hfs rfl ⟨Nat.le_of_ble_eq_true rfl, Nat.le_of_ble_eq_true rfl⟩ rfl hl.1 rfl (Nat.le_of_ble_eq_true rfl) hcs dL_law_469 (fun H locs hW => ?_)
  exact lv_icmp_eq (tgt := 870) hx hb dL_law_472 (by decide) (fun _ => kk S1 S3 T1 _ _ j hW) (fun c_ => absurd rfl c_)
set_option maxHeartbeats 4000000 in
set_option maxRecDepth 100000 in
theorem law_9 (hC : Cx p m c cL_law 4 s #[Value.ref b] RL) (hX : va_X b L xs s s.heap) (hbl : b < s.heap.size) (hcs : cells + 0 ≤ room_1.cells ∧ slots + 0 ≤ room_1.slots) (hv : ∀ k : Nat, k ≤ 6 → vp_in (i + nI k) L) (hJ : JJ S S2 T B M) (hB : 0 ≤ B ∧ B ≤ 199000) (hM : M ≤ 511) (hW : Wd D cc (CW cc h ad a2 S S2 ++ MW cc am T) (fun q : Nat => s.heap.size ≤ q) s.heap H locs s) (hl : lv_has ls 4 [(3, .int i), (0, .ref b), (1, .ref h), (2, .ref (am 0))])
    (kk : ∀ (S1 S3 T1 : St) (H1 : Heap) (locs1 : List Loc), JJ S1 S3 T1 (B + 300) (M + 1) → Wd D cc (CW cc h ad a2 S1 S3 ++ MW cc am T1) (fun q : Nat => s.heap.size ≤ q) s.heap H1 locs1 s → W p l e room_1 s m #[Value.ref b] below meth c H1 locs1 cells slots Q (F0 m 870 ls [])) : W p l e room_1 s m #[Value.ref b] below meth c H locs cells slots Q (F0 m 477 ls []) := by
  obtain ⟨⟨hx, hb, hml, hown, hts⟩, hNW⟩ := id hC
  have hbA : ¬ (fun q : Nat => s.heap.size ≤ q) b := Nat.not_le.mpr hbl
  obtain ⟨r, S1, S3, T1, c1, c2, j⟩ := st_loadRoll l D cc h ad a2 am hJ hB hM (xs (i + 1).toNatClampNeg)
  refine lv_aload_n hx hb dL_law_477 rfl (lv_at hl 2 rfl) ?_
  refine lv_aload_n hx hb dL_law_478 rfl (lv_at hl 1 rfl) ?_
  refine lv_iload_n hx hb dL_law_479 rfl (lv_at hl 0 rfl) ?_
  refine lv_iconst (v := 1) hx hb dL_law_480 (by decide) ?_
  refine lv_iadd hx hb dL_law_481 ?_
  refine va_sld hx hb hX hbl hbA hW.2.2.2.1 (hv 1 (by decide)) dL_law_482 ?_
  refine q_VI hC hW (c1.lift [] (MW cc am T) rfl rfl) mL_53 0 rfl rfl ⟨Nat.le_of_ble_eq_true rfl, Nat.le_of_ble_eq_true rfl⟩ rfl hl.1 rfl (Nat.le_of_ble_eq_true rfl) hcs dL_law_483 (fun H locs hW => ?_)
  refine lv_aload_n hx hb dL_law_486 rfl (lv_at hl 3 rfl) ?_
  refine lv_aload_n hx hb dL_law_487 rfl (lv_at hl 1 rfl) ?_
  refine lv_iload_n hx hb dL_law_488 rfl (lv_at hl 0 rfl) ?_
  refine lv_iconst (v := 1) hx hb dL_law_489 (by decide) ?_
  refine lv_iadd hx hb dL_law_490 ?_
  refine va_sld hx hb hX hbl hbA hW.2.2.2.1 (hv 1 (by decide)) dL_law_491 ?_
  obtain ⟨fs, hfs⟩ := cm_at cc h ad a2 am S1 S3 T
  refine q_VI hC hW (c2.lift (CW cc h ad a2 S1 S3) [] (List.append_nil _).symm (List.append_nil _).symm) mL_56 81 hfs rfl ⟨Nat.le_of_ble_eq_true rfl, Nat.le_of_ble_eq_true rfl⟩ rfl hl.1 rfl (Nat.le_of_ble_eq_true rfl) hcs dL_law_492 (fun H locs hW => ?_)
  exact lv_icmp_eq (tgt := 870) hx hb dL_law_495 (by decide) (fun _ => kk S1 S3 T1 _ _ j hW) (fun c_ => absurd rfl c_)
set_option maxHeartbeats 4000000 in
set_option maxRecDepth 100000 in
theorem law_10 (hC : Cx p m c cL_law 4 s #[Value.ref b] RL) (hX : va_X b L xs s s.heap) (hbl : b < s.heap.size) (hcs : cells + 0 ≤ room_1.cells ∧ slots + 0 ≤ room_1.slots) (hv : ∀ k : Nat, k ≤ 6 → vp_in (i + nI k) L) (hJ : JJ S S2 T B M) (hB : 0 ≤ B ∧ B ≤ 199000) (hM : M ≤ 511) (hW : Wd D cc (CW cc h ad a2 S S2 ++ MW cc am T) (fun q : Nat => s.heap.size ≤ q) s.heap H locs s) (hl : lv_has ls 4 [(3, .int i), (0, .ref b), (1, .ref h), (2, .ref (am 0))])
    (kk : ∀ (S1 S3 T1 : St) (H1 : Heap) (locs1 : List Loc), JJ S1 S3 T1 (B + 300) (M + 1) → Wd D cc (CW cc h ad a2 S1 S3 ++ MW cc am T1) (fun q : Nat => s.heap.size ≤ q) s.heap H1 locs1 s → W p l e room_1 s m #[Value.ref b] below meth c H1 locs1 cells slots Q (F0 m 870 ls [])) : W p l e room_1 s m #[Value.ref b] below meth c H locs cells slots Q (F0 m 500 ls []) := by
  obtain ⟨⟨hx, hb, hml, hown, hts⟩, hNW⟩ := id hC
  have hbA : ¬ (fun q : Nat => s.heap.size ≤ q) b := Nat.not_le.mpr hbl
  obtain ⟨r, S1, S3, T1, c1, c2, j⟩ := st_setRollLength l D cc h ad a2 am hJ hB hM (xs (i + 1).toNatClampNeg)
  refine lv_aload_n hx hb dL_law_500 rfl (lv_at hl 2 rfl) ?_
  refine lv_aload_n hx hb dL_law_501 rfl (lv_at hl 1 rfl) ?_
  refine lv_iload_n hx hb dL_law_502 rfl (lv_at hl 0 rfl) ?_
  refine lv_iconst (v := 1) hx hb dL_law_503 (by decide) ?_
  refine lv_iadd hx hb dL_law_504 ?_
  refine va_sld hx hb hX hbl hbA hW.2.2.2.1 (hv 1 (by decide)) dL_law_505 ?_
  refine q_VI hC hW (c1.lift [] (MW cc am T) rfl rfl) mL_57 0 rfl rfl ⟨Nat.le_of_ble_eq_true rfl, Nat.le_of_ble_eq_true rfl⟩ rfl hl.1 rfl (Nat.le_of_ble_eq_true rfl) hcs dL_law_506 (fun H locs hW => ?_)
  refine lv_aload_n hx hb dL_law_509 rfl (lv_at hl 3 rfl) ?_
  refine lv_aload_n hx hb dL_law_510 rfl (lv_at hl 1 rfl) ?_
  refine lv_iload_n hx hb dL_law_511 rfl (lv_at hl 0 rfl) ?_
  refine lv_iconst (v := 1) hx hb dL_law_512 (by decide) ?_
  refine lv_iadd hx hb dL_law_513 ?_
  refine va_sld hx hb hX hbl hbA hW.2.2.2.1 (hv 1 (by decide)) dL_law_514 ?_
  obtain ⟨fs, hfs⟩ := cm_at cc h ad a2 am S1 S3 T
  refine q_VI hC hW (c2.lift (CW cc h ad a2 S1 S3) [] (List.append_nil _).symm (List.append_nil _).symm) mL_60 81 hfs rfl ⟨Nat.le_of_ble_eq_true rfl, Nat.le_of_ble_eq_true rfl⟩ rfl hl.1 rfl (Nat.le_of_ble_eq_true rfl) hcs dL_law_515 (fun H locs hW => ?_)
  exact lv_icmp_eq (tgt := 870) hx hb dL_law_518 (by decide) (fun _ => kk S1 S3 T1 _ _ j hW) (fun c_ => absurd rfl c_)
set_option maxHeartbeats 4000000 in
set_option maxRecDepth 100000 in
theorem law_11 (hC : Cx p m c cL_law 4 s #[Value.ref b] RL) (hX : va_X b L xs s s.heap) (hbl : b < s.heap.size) (hcs : cells + 0 ≤ room_1.cells ∧ slots + 0 ≤ room_1.slots) (hv : ∀ k : Nat, k ≤ 6 → vp_in (i + nI k) L) (hJ : JJ S S2 T B M) (hB : 0 ≤ B ∧ B ≤ 199000) (hM : M ≤ 511) (hW : Wd D cc (CW cc h ad a2 S S2 ++ MW cc am T) (fun q : Nat => s.heap.size ≤ q) s.heap H locs s) (hl : lv_has ls 4 [(3, .int i), (0, .ref b), (1, .ref h), (2, .ref (am 0))])
    (kk : ∀ (S1 S3 T1 : St) (H1 : Heap) (locs1 : List Loc), JJ S1 S3 T1 (B + 300) (M + 1) → Wd D cc (CW cc h ad a2 S1 S3 ++ MW cc am T1) (fun q : Nat => s.heap.size ≤ q) s.heap H1 locs1 s → W p l e room_1 s m #[Value.ref b] below meth c H1 locs1 cells slots Q (F0 m 870 ls [])) : W p l e room_1 s m #[Value.ref b] below meth c H locs cells slots Q (F0 m 523 ls []) := by
  obtain ⟨⟨hx, hb, hml, hown, hts⟩, hNW⟩ := id hC
  have hbA : ¬ (fun q : Nat => s.heap.size ≤ q) b := Nat.not_le.mpr hbl
  obtain ⟨r, S1, S3, T1, c1, c2, j⟩ := st_run l D cc h ad a2 am hJ hB hM (xs (i + 1).toNatClampNeg)
  refine lv_aload_n hx hb dL_law_523 rfl (lv_at hl 2 rfl) ?_
  refine lv_aload_n hx hb dL_law_524 rfl (lv_at hl 1 rfl) ?_
  refine lv_iload_n hx hb dL_law_525 rfl (lv_at hl 0 rfl) ?_
  refine lv_iconst (v := 1) hx hb dL_law_526 (by decide) ?_
  refine lv_iadd hx hb dL_law_527 ?_
  refine va_sld hx hb hX hbl hbA hW.2.2.2.1 (hv 1 (by decide)) dL_law_528 ?_
  refine q_VI hC hW (c1.lift [] (MW cc am T) rfl rfl) mL_61 0 rfl rfl ⟨Nat.le_of_ble_eq_true rfl, Nat.le_of_ble_eq_true rfl⟩ rfl hl.1 rfl (Nat.le_of_ble_eq_true rfl) hcs dL_law_529 (fun H locs hW => ?_)
  refine lv_aload_n hx hb dL_law_532 rfl (lv_at hl 3 rfl) ?_
  refine lv_aload_n hx hb dL_law_533 rfl (lv_at hl 1 rfl) ?_
  refine lv_iload_n hx hb dL_law_534 rfl (lv_at hl 0 rfl) ?_
  refine lv_iconst (v := 1) hx hb dL_law_535 (by decide) ?_
  refine lv_iadd hx hb dL_law_536 ?_
  refine va_sld hx hb hX hbl hbA hW.2.2.2.1 (hv 1 (by decide)) dL_law_537 ?_
  obtain ⟨fs, hfs⟩ := cm_at cc h ad a2 am S1 S3 T
  refine q_VI hC hW (c2.lift (CW cc h ad a2 S1 S3) [] (List.append_nil _).symm (List.append_nil _).symm) mL_64 81 hfs rfl ⟨Nat.le_of_ble_eq_true rfl, Nat.le_of_ble_eq_true rfl⟩ rfl hl.1 rfl (Nat.le_of_ble_eq_true rfl) hcs dL_law_538 (fun H locs hW => ?_)
  exact lv_icmp_eq (tgt := 870) hx hb dL_law_541 (by decide) (fun _ => kk S1 S3 T1 _ _ j hW) (fun c_ => absurd rfl c_)
set_option maxHeartbeats 4000000 in
set_option maxRecDepth 100000 in
theorem law_12 (hC : Cx p m c cL_law 4 s #[Value.ref b] RL) (hX : va_X b L xs s s.heap) (hbl : b < s.heap.size) (hcs : cells + 0 ≤ room_1.cells ∧ slots + 0 ≤ room_1.slots) (hv : ∀ k : Nat, k ≤ 6 → vp_in (i + nI k) L) (hJ : JJ S S2 T B M) (hB : 0 ≤ B ∧ B ≤ 199000) (hM : M ≤ 511) (hW : Wd D cc (CW cc h ad a2 S S2 ++ MW cc am T) (fun q : Nat => s.heap.size ≤ q) s.heap H locs s) (hl : lv_has ls 4 [(3, .int i), (0, .ref b), (1, .ref h), (2, .ref (am 0))])
    (kk : ∀ (S1 S3 T1 : St) (H1 : Heap) (locs1 : List Loc), JJ S1 S3 T1 (B + 300) (M + 1) → Wd D cc (CW cc h ad a2 S1 S3 ++ MW cc am T1) (fun q : Nat => s.heap.size ≤ q) s.heap H1 locs1 s → W p l e room_1 s m #[Value.ref b] below meth c H1 locs1 cells slots Q (F0 m 870 ls [])) : W p l e room_1 s m #[Value.ref b] below meth c H locs cells slots Q (F0 m 546 ls []) := by
  obtain ⟨⟨hx, hb, hml, hown, hts⟩, hNW⟩ := id hC
  have hbA : ¬ (fun q : Nat => s.heap.size ≤ q) b := Nat.not_le.mpr hbl
  obtain ⟨r, S1, S3, T1, c1, c2, j⟩ := st_thread l D cc h ad a2 am hJ hB hM 
  refine lv_aload_n hx hb dL_law_546 rfl (lv_at hl 2 rfl) ?_
  refine q_VI hC hW (c1.lift [] (MW cc am T) rfl rfl) mL_65 0 rfl rfl ⟨Nat.le_of_ble_eq_true rfl, Nat.le_of_ble_eq_true rfl⟩ rfl hl.1 rfl (Nat.le_of_ble_eq_true rfl) hcs dL_law_547 (fun H locs hW => ?_)
  refine lv_aload_n hx hb dL_law_550 rfl (lv_at hl 3 rfl) ?_
  obtain ⟨fs, hfs⟩ := cm_at cc h ad a2 am S1 S3 T
  refine q_VI hC hW (c2.lift (CW cc h ad a2 S1 S3) [] (List.append_nil _).symm (List.append_nil _).symm) mL_69 81 hfs rfl ⟨Nat.le_of_ble_eq_true rfl, Nat.le_of_ble_eq_true rfl⟩ rfl hl.1 rfl (Nat.le_of_ble_eq_true rfl) hcs dL_law_551 (fun H locs hW => ?_)
  exact lv_icmp_eq (tgt := 870) hx hb dL_law_554 (by decide) (fun _ => kk S1 S3 T1 _ _ j hW) (fun c_ => absurd rfl c_)
set_option maxHeartbeats 4000000 in
set_option maxRecDepth 100000 in
theorem law_13 (hC : Cx p m c cL_law 4 s #[Value.ref b] RL) (hX : va_X b L xs s s.heap) (hbl : b < s.heap.size) (hcs : cells + 0 ≤ room_1.cells ∧ slots + 0 ≤ room_1.slots) (hv : ∀ k : Nat, k ≤ 6 → vp_in (i + nI k) L) (hJ : JJ S S2 T B M) (hB : 0 ≤ B ∧ B ≤ 199000) (hM : M ≤ 511) (hW : Wd D cc (CW cc h ad a2 S S2 ++ MW cc am T) (fun q : Nat => s.heap.size ≤ q) s.heap H locs s) (hl : lv_has ls 4 [(3, .int i), (0, .ref b), (1, .ref h), (2, .ref (am 0))])
    (kk : ∀ (S1 S3 T1 : St) (H1 : Heap) (locs1 : List Loc), JJ S1 S3 T1 (B + 300) (M + 1) → Wd D cc (CW cc h ad a2 S1 S3 ++ MW cc am T1) (fun q : Nat => s.heap.size ≤ q) s.heap H1 locs1 s → W p l e room_1 s m #[Value.ref b] below meth c H1 locs1 cells slots Q (F0 m 870 ls [])) : W p l e room_1 s m #[Value.ref b] below meth c H locs cells slots Q (F0 m 559 ls []) := by
  obtain ⟨⟨hx, hb, hml, hown, hts⟩, hNW⟩ := id hC
  have hbA : ¬ (fun q : Nat => s.heap.size ≤ q) b := Nat.not_le.mpr hbl
  obtain ⟨r, S1, S3, T1, c1, c2, j⟩ := st_value l D cc h ad a2 am hJ hB hM (xs (i + 1).toNatClampNeg)
  refine lv_aload_n hx hb dL_law_559 rfl (lv_at hl 2 rfl) ?_
  refine lv_aload_n hx hb dL_law_560 rfl (lv_at hl 1 rfl) ?_
  refine lv_iload_n hx hb dL_law_561 rfl (lv_at hl 0 rfl) ?_
  refine lv_iconst (v := 1) hx hb dL_law_562 (by decide) ?_
  refine lv_iadd hx hb dL_law_563 ?_
  refine va_sld hx hb hX hbl hbA hW.2.2.2.1 (hv 1 (by decide)) dL_law_564 ?_
  refine q_VI hC hW (c1.lift [] (MW cc am T) rfl rfl) mL_70 0 rfl rfl ⟨Nat.le_of_ble_eq_true rfl, Nat.le_of_ble_eq_true rfl⟩ rfl hl.1 rfl (Nat.le_of_ble_eq_true rfl) hcs dL_law_565 (fun H locs hW => ?_)
  refine lv_aload_n hx hb dL_law_568 rfl (lv_at hl 3 rfl) ?_
  refine lv_aload_n hx hb dL_law_569 rfl (lv_at hl 1 rfl) ?_
  refine lv_iload_n hx hb dL_law_570 rfl (lv_at hl 0 rfl) ?_
  refine lv_iconst (v := 1) hx hb dL_law_571 (by decide) ?_
  refine lv_iadd hx hb dL_law_572 ?_
  refine va_sld hx hb hX hbl hbA hW.2.2.2.1 (hv 1 (by decide)) dL_law_573 ?_
  obtain ⟨fs, hfs⟩ := cm_at cc h ad a2 am S1 S3 T
  refine q_VI hC hW (c2.lift (CW cc h ad a2 S1 S3) [] (List.append_nil _).symm (List.append_nil _).symm) mL_73 81 hfs rfl ⟨Nat.le_of_ble_eq_true rfl, Nat.le_of_ble_eq_true rfl⟩ rfl hl.1 rfl (Nat.le_of_ble_eq_true rfl) hcs dL_law_574 (fun H locs hW => ?_)
  exact lv_icmp_eq (tgt := 870) hx hb dL_law_577 (by decide) (fun _ => kk S1 S3 T1 _ _ j hW) (fun c_ => absurd rfl c_)
set_option maxHeartbeats 4000000 in
set_option maxRecDepth 100000 in
theorem law_14 (hC : Cx p m c cL_law 4 s #[Value.ref b] RL) (hX : va_X b L xs s s.heap) (hbl : b < s.heap.size) (hcs : cells + 0 ≤ room_1.cells ∧ slots + 0 ≤ room_1.slots) (hv : ∀ k : Nat, k ≤ 6 → vp_in (i + nI k) L) (hJ : JJ S S2 T B M) (hB : 0 ≤ B ∧ B ≤ 199000) (hM : M ≤ 511) (hW : Wd D cc (CW cc h ad a2 S S2 ++ MW cc am T) (fun q : Nat => s.heap.size ≤ q) s.heap H locs s) (hl : lv_has ls 4 [(3, .int i), (0, .ref b), (1, .ref h), (2, .ref (am 0))])
    (kk : ∀ (S1 S3 T1 : St) (H1 : Heap) (locs1 : List Loc), JJ S1 S3 T1 (B + 300) (M + 1) → Wd D cc (CW cc h ad a2 S1 S3 ++ MW cc am T1) (fun q : Nat => s.heap.size ≤ q) s.heap H1 locs1 s → W p l e room_1 s m #[Value.ref b] below meth c H1 locs1 cells slots Q (F0 m 870 ls [])) : W p l e room_1 s m #[Value.ref b] below meth c H locs cells slots Q (F0 m 582 ls []) := by
  obtain ⟨⟨hx, hb, hml, hown, hts⟩, hNW⟩ := id hC
  have hbA : ¬ (fun q : Nat => s.heap.size ≤ q) b := Nat.not_le.mpr hbl
  obtain ⟨r, S1, S3, T1, c1, c2, j⟩ := st_breakAt l D cc h ad a2 am hJ hB hM 
  refine lv_aload_n hx hb dL_law_582 rfl (lv_at hl 2 rfl) ?_
  refine q_VI hC hW (c1.lift [] (MW cc am T) rfl rfl) mL_74 0 rfl rfl ⟨Nat.le_of_ble_eq_true rfl, Nat.le_of_ble_eq_true rfl⟩ rfl hl.1 rfl (Nat.le_of_ble_eq_true rfl) hcs dL_law_583 (fun H locs hW => ?_)
  refine lv_aload_n hx hb dL_law_586 rfl (lv_at hl 3 rfl) ?_
  obtain ⟨fs, hfs⟩ := cm_at cc h ad a2 am S1 S3 T
  refine q_VI hC hW (c2.lift (CW cc h ad a2 S1 S3) [] (List.append_nil _).symm (List.append_nil _).symm) mL_77 81 hfs rfl ⟨Nat.le_of_ble_eq_true rfl, Nat.le_of_ble_eq_true rfl⟩ rfl hl.1 rfl (Nat.le_of_ble_eq_true rfl) hcs dL_law_587 (fun H locs hW => ?_)
  exact lv_icmp_eq (tgt := 870) hx hb dL_law_590 (by decide) (fun _ => kk S1 S3 T1 _ _ j hW) (fun c_ => absurd rfl c_)
set_option maxHeartbeats 4000000 in
set_option maxRecDepth 100000 in
theorem law_15 (hC : Cx p m c cL_law 4 s #[Value.ref b] RL) (hX : va_X b L xs s s.heap) (hbl : b < s.heap.size) (hcs : cells + 0 ≤ room_1.cells ∧ slots + 0 ≤ room_1.slots) (hv : ∀ k : Nat, k ≤ 6 → vp_in (i + nI k) L) (hJ : JJ S S2 T B M) (hB : 0 ≤ B ∧ B ≤ 199000) (hM : M ≤ 511) (hW : Wd D cc (CW cc h ad a2 S S2 ++ MW cc am T) (fun q : Nat => s.heap.size ≤ q) s.heap H locs s) (hl : lv_has ls 4 [(3, .int i), (0, .ref b), (1, .ref h), (2, .ref (am 0))])
    (kk : ∀ (S1 S3 T1 : St) (H1 : Heap) (locs1 : List Loc), JJ S1 S3 T1 (B + 300) (M + 1) → Wd D cc (CW cc h ad a2 S1 S3 ++ MW cc am T1) (fun q : Nat => s.heap.size ≤ q) s.heap H1 locs1 s → W p l e room_1 s m #[Value.ref b] below meth c H1 locs1 cells slots Q (F0 m 870 ls [])) : W p l e room_1 s m #[Value.ref b] below meth c H locs cells slots Q (F0 m 595 ls []) := by
  obtain ⟨⟨hx, hb, hml, hown, hts⟩, hNW⟩ := id hC
  have hbA : ¬ (fun q : Nat => s.heap.size ≤ q) b := Nat.not_le.mpr hbl
  obtain ⟨r, S1, S3, T1, c1, c2, j⟩ := st_measure l D cc h ad a2 am hJ hB hM (xs (i + 1).toNatClampNeg) (xs (i + 2).toNatClampNeg)
  refine lv_aload_n hx hb dL_law_595 rfl (lv_at hl 2 rfl) ?_
  refine lv_aload_n hx hb dL_law_596 rfl (lv_at hl 1 rfl) ?_
  refine lv_iload_n hx hb dL_law_597 rfl (lv_at hl 0 rfl) ?_
  refine lv_iconst (v := 1) hx hb dL_law_598 (by decide) ?_
  refine lv_iadd hx hb dL_law_599 ?_
  refine va_sld hx hb hX hbl hbA hW.2.2.2.1 (hv 1 (by decide)) dL_law_600 ?_
  refine lv_aload_n hx hb dL_law_601 rfl (lv_at hl 1 rfl) ?_
  refine lv_iload_n hx hb dL_law_602 rfl (lv_at hl 0 rfl) ?_
  refine lv_iconst (v := 2) hx hb dL_law_603 (by decide) ?_
  refine lv_iadd hx hb dL_law_604 ?_
  refine va_sld hx hb hX hbl hbA hW.2.2.2.1 (hv 2 (by decide)) dL_law_605 ?_
  refine q_VL hC hW (c1.lift [] (MW cc am T) rfl rfl) mL_78 0 rfl rfl ⟨Nat.le_of_ble_eq_true rfl, Nat.le_of_ble_eq_true rfl⟩ rfl hl.1 rfl (Nat.le_of_ble_eq_true rfl) hcs dL_law_606 (fun H locs hW => ?_)
  refine lv_aload_n hx hb dL_law_609 rfl (lv_at hl 3 rfl) ?_
  refine lv_aload_n hx hb dL_law_610 rfl (lv_at hl 1 rfl) ?_
  refine lv_iload_n hx hb dL_law_611 rfl (lv_at hl 0 rfl) ?_
  refine lv_iconst (v := 1) hx hb dL_law_612 (by decide) ?_
  refine lv_iadd hx hb dL_law_613 ?_
  refine va_sld hx hb hX hbl hbA hW.2.2.2.1 (hv 1 (by decide)) dL_law_614 ?_
  refine lv_aload_n hx hb dL_law_615 rfl (lv_at hl 1 rfl) ?_
  refine lv_iload_n hx hb dL_law_616 rfl (lv_at hl 0 rfl) ?_
  refine lv_iconst (v := 2) hx hb dL_law_617 (by decide) ?_
  refine lv_iadd hx hb dL_law_618 ?_
  refine va_sld hx hb hX hbl hbA hW.2.2.2.1 (hv 2 (by decide)) dL_law_619 ?_
  obtain ⟨fs, hfs⟩ := cm_at cc h ad a2 am S1 S3 T
  refine q_VL hC hW (c2.lift (CW cc h ad a2 S1 S3) [] (List.append_nil _).symm (List.append_nil _).symm) mL_82 81 hfs rfl ⟨Nat.le_of_ble_eq_true rfl, Nat.le_of_ble_eq_true rfl⟩ rfl hl.1 rfl (Nat.le_of_ble_eq_true rfl) hcs dL_law_620 (fun H locs hW => ?_)
  exact q_jeq (tgt := 870) hC dL_law_623 dL_law_624 (by decide) (fun _ => kk S1 S3 T1 _ _ j hW) (fun c_ => absurd rfl c_)
set_option maxHeartbeats 4000000 in
set_option maxRecDepth 100000 in
theorem law_16 (hC : Cx p m c cL_law 4 s #[Value.ref b] RL) (hX : va_X b L xs s s.heap) (hbl : b < s.heap.size) (hcs : cells + 0 ≤ room_1.cells ∧ slots + 0 ≤ room_1.slots) (hv : ∀ k : Nat, k ≤ 6 → vp_in (i + nI k) L) (hJ : JJ S S2 T B M) (hB : 0 ≤ B ∧ B ≤ 199000) (hM : M ≤ 511) (hW : Wd D cc (CW cc h ad a2 S S2 ++ MW cc am T) (fun q : Nat => s.heap.size ≤ q) s.heap H locs s) (hl : lv_has ls 4 [(3, .int i), (0, .ref b), (1, .ref h), (2, .ref (am 0))])
    (kk : ∀ (S1 S3 T1 : St) (H1 : Heap) (locs1 : List Loc), JJ S1 S3 T1 (B + 300) (M + 1) → Wd D cc (CW cc h ad a2 S1 S3 ++ MW cc am T1) (fun q : Nat => s.heap.size ≤ q) s.heap H1 locs1 s → W p l e room_1 s m #[Value.ref b] below meth c H1 locs1 cells slots Q (F0 m 870 ls [])) : W p l e room_1 s m #[Value.ref b] below meth c H locs cells slots Q (F0 m 629 ls []) := by
  obtain ⟨⟨hx, hb, hml, hown, hts⟩, hNW⟩ := id hC
  have hbA : ¬ (fun q : Nat => s.heap.size ≤ q) b := Nat.not_le.mpr hbl
  obtain ⟨r, S1, S3, T1, c1, c2, j⟩ := st_roller l D cc h ad a2 am hJ hB hM (xs (i + 1).toNatClampNeg) (xs (i + 2).toNatClampNeg)
  refine lv_aload_n hx hb dL_law_629 rfl (lv_at hl 2 rfl) ?_
  refine lv_aload_n hx hb dL_law_630 rfl (lv_at hl 1 rfl) ?_
  refine lv_iload_n hx hb dL_law_631 rfl (lv_at hl 0 rfl) ?_
  refine lv_iconst (v := 1) hx hb dL_law_632 (by decide) ?_
  refine lv_iadd hx hb dL_law_633 ?_
  refine va_sld hx hb hX hbl hbA hW.2.2.2.1 (hv 1 (by decide)) dL_law_634 ?_
  refine lv_aload_n hx hb dL_law_635 rfl (lv_at hl 1 rfl) ?_
  refine lv_iload_n hx hb dL_law_636 rfl (lv_at hl 0 rfl) ?_
  refine lv_iconst (v := 2) hx hb dL_law_637 (by decide) ?_
  refine lv_iadd hx hb dL_law_638 ?_
  refine va_sld hx hb hX hbl hbA hW.2.2.2.1 (hv 2 (by decide)) dL_law_639 ?_
  refine q_VL hC hW (c1.lift [] (MW cc am T) rfl rfl) mL_83 0 rfl rfl ⟨Nat.le_of_ble_eq_true rfl, Nat.le_of_ble_eq_true rfl⟩ rfl hl.1 rfl (Nat.le_of_ble_eq_true rfl) hcs dL_law_640 (fun H locs hW => ?_)
  refine lv_aload_n hx hb dL_law_643 rfl (lv_at hl 3 rfl) ?_
  refine lv_aload_n hx hb dL_law_644 rfl (lv_at hl 1 rfl) ?_
  refine lv_iload_n hx hb dL_law_645 rfl (lv_at hl 0 rfl) ?_
  refine lv_iconst (v := 1) hx hb dL_law_646 (by decide) ?_
  refine lv_iadd hx hb dL_law_647 ?_
  refine va_sld hx hb hX hbl hbA hW.2.2.2.1 (hv 1 (by decide)) dL_law_648 ?_
  refine lv_aload_n hx hb dL_law_649 rfl (lv_at hl 1 rfl) ?_
  refine lv_iload_n hx hb dL_law_650 rfl (lv_at hl 0 rfl) ?_
  refine lv_iconst (v := 2) hx hb dL_law_651 (by decide) ?_
  refine lv_iadd hx hb dL_law_652 ?_
  refine va_sld hx hb hX hbl hbA hW.2.2.2.1 (hv 2 (by decide)) dL_law_653 ?_
  obtain ⟨fs, hfs⟩ := cm_at cc h ad a2 am S1 S3 T
  refine q_VL hC hW (c2.lift (CW cc h ad a2 S1 S3) [] (List.append_nil _).symm (List.append_nil _).symm) mL_86 81 hfs rfl ⟨Nat.le_of_ble_eq_true rfl, Nat.le_of_ble_eq_true rfl⟩ rfl hl.1 rfl (Nat.le_of_ble_eq_true rfl) hcs dL_law_654 (fun H locs hW => ?_)
  exact q_jeq (tgt := 870) hC dL_law_657 dL_law_658 (by decide) (fun _ => kk S1 S3 T1 _ _ j hW) (fun c_ => absurd rfl c_)
set_option maxHeartbeats 4000000 in
set_option maxRecDepth 100000 in
theorem law_17 (hC : Cx p m c cL_law 4 s #[Value.ref b] RL) (hX : va_X b L xs s s.heap) (hbl : b < s.heap.size) (hcs : cells + 0 ≤ room_1.cells ∧ slots + 0 ≤ room_1.slots) (hv : ∀ k : Nat, k ≤ 6 → vp_in (i + nI k) L) (hJ : JJ S S2 T B M) (hB : 0 ≤ B ∧ B ≤ 199000) (hM : M ≤ 511) (hW : Wd D cc (CW cc h ad a2 S S2 ++ MW cc am T) (fun q : Nat => s.heap.size ≤ q) s.heap H locs s) (hl : lv_has ls 4 [(3, .int i), (0, .ref b), (1, .ref h), (2, .ref (am 0))])
    (kk : ∀ (S1 S3 T1 : St) (H1 : Heap) (locs1 : List Loc), JJ S1 S3 T1 (B + 300) (M + 1) → Wd D cc (CW cc h ad a2 S1 S3 ++ MW cc am T1) (fun q : Nat => s.heap.size ≤ q) s.heap H1 locs1 s → W p l e room_1 s m #[Value.ref b] below meth c H1 locs1 cells slots Q (F0 m 870 ls [])) : W p l e room_1 s m #[Value.ref b] below meth c H locs cells slots Q (F0 m 663 ls []) := by
  obtain ⟨⟨hx, hb, hml, hown, hts⟩, hNW⟩ := id hC
  have hbA : ¬ (fun q : Nat => s.heap.size ≤ q) b := Nat.not_le.mpr hbl
  obtain ⟨r, S1, S3, T1, c1, c2, j⟩ := st_web l D cc h ad a2 am hJ hB hM (xs (i + 1).toNatClampNeg)
  refine lv_aload_n hx hb dL_law_663 rfl (lv_at hl 2 rfl) ?_
  refine lv_aload_n hx hb dL_law_664 rfl (lv_at hl 1 rfl) ?_
  refine lv_iload_n hx hb dL_law_665 rfl (lv_at hl 0 rfl) ?_
  refine lv_iconst (v := 1) hx hb dL_law_666 (by decide) ?_
  refine lv_iadd hx hb dL_law_667 ?_
  refine va_sld hx hb hX hbl hbA hW.2.2.2.1 (hv 1 (by decide)) dL_law_668 ?_
  refine q_VL hC hW (c1.lift [] (MW cc am T) rfl rfl) mL_87 0 rfl rfl ⟨Nat.le_of_ble_eq_true rfl, Nat.le_of_ble_eq_true rfl⟩ rfl hl.1 rfl (Nat.le_of_ble_eq_true rfl) hcs dL_law_669 (fun H locs hW => ?_)
  refine lv_aload_n hx hb dL_law_672 rfl (lv_at hl 3 rfl) ?_
  refine lv_aload_n hx hb dL_law_673 rfl (lv_at hl 1 rfl) ?_
  refine lv_iload_n hx hb dL_law_674 rfl (lv_at hl 0 rfl) ?_
  refine lv_iconst (v := 1) hx hb dL_law_675 (by decide) ?_
  refine lv_iadd hx hb dL_law_676 ?_
  refine va_sld hx hb hX hbl hbA hW.2.2.2.1 (hv 1 (by decide)) dL_law_677 ?_
  obtain ⟨fs, hfs⟩ := cm_at cc h ad a2 am S1 S3 T
  refine q_VL hC hW (c2.lift (CW cc h ad a2 S1 S3) [] (List.append_nil _).symm (List.append_nil _).symm) mL_91 81 hfs rfl ⟨Nat.le_of_ble_eq_true rfl, Nat.le_of_ble_eq_true rfl⟩ rfl hl.1 rfl (Nat.le_of_ble_eq_true rfl) hcs dL_law_678 (fun H locs hW => ?_)
  exact q_jeq (tgt := 870) hC dL_law_681 dL_law_682 (by decide) (fun _ => kk S1 S3 T1 _ _ j hW) (fun c_ => absurd rfl c_)
set_option maxHeartbeats 4000000 in
set_option maxRecDepth 100000 in
theorem law_18 (hC : Cx p m c cL_law 4 s #[Value.ref b] RL) (hX : va_X b L xs s s.heap) (hbl : b < s.heap.size) (hcs : cells + 0 ≤ room_1.cells ∧ slots + 0 ≤ room_1.slots) (hv : ∀ k : Nat, k ≤ 6 → vp_in (i + nI k) L) (hJ : JJ S S2 T B M) (hB : 0 ≤ B ∧ B ≤ 199000) (hM : M ≤ 511) (hW : Wd D cc (CW cc h ad a2 S S2 ++ MW cc am T) (fun q : Nat => s.heap.size ≤ q) s.heap H locs s) (hl : lv_has ls 4 [(3, .int i), (0, .ref b), (1, .ref h), (2, .ref (am 0))])
    (kk : ∀ (S1 S3 T1 : St) (H1 : Heap) (locs1 : List Loc), JJ S1 S3 T1 (B + 300) (M + 1) → Wd D cc (CW cc h ad a2 S1 S3 ++ MW cc am T1) (fun q : Nat => s.heap.size ≤ q) s.heap H1 locs1 s → W p l e room_1 s m #[Value.ref b] below meth c H1 locs1 cells slots Q (F0 m 870 ls [])) : W p l e room_1 s m #[Value.ref b] below meth c H locs cells slots Q (F0 m 687 ls []) := by
  obtain ⟨⟨hx, hb, hml, hown, hts⟩, hNW⟩ := id hC
  have hbA : ¬ (fun q : Nat => s.heap.size ≤ q) b := Nat.not_le.mpr hbl
  obtain ⟨r, S1, S3, T1, c1, c2, j⟩ := st_markDistance l D cc h ad a2 am hJ hB hM (xs (i + 1).toNatClampNeg)
  refine lv_aload_n hx hb dL_law_687 rfl (lv_at hl 2 rfl) ?_
  refine lv_aload_n hx hb dL_law_688 rfl (lv_at hl 1 rfl) ?_
  refine lv_iload_n hx hb dL_law_689 rfl (lv_at hl 0 rfl) ?_
  refine lv_iconst (v := 1) hx hb dL_law_690 (by decide) ?_
  refine lv_iadd hx hb dL_law_691 ?_
  refine va_sld hx hb hX hbl hbA hW.2.2.2.1 (hv 1 (by decide)) dL_law_692 ?_
  refine q_VL hC hW (c1.lift [] (MW cc am T) rfl rfl) mL_92 0 rfl rfl ⟨Nat.le_of_ble_eq_true rfl, Nat.le_of_ble_eq_true rfl⟩ rfl hl.1 rfl (Nat.le_of_ble_eq_true rfl) hcs dL_law_693 (fun H locs hW => ?_)
  refine lv_aload_n hx hb dL_law_696 rfl (lv_at hl 3 rfl) ?_
  refine lv_aload_n hx hb dL_law_697 rfl (lv_at hl 1 rfl) ?_
  refine lv_iload_n hx hb dL_law_698 rfl (lv_at hl 0 rfl) ?_
  refine lv_iconst (v := 1) hx hb dL_law_699 (by decide) ?_
  refine lv_iadd hx hb dL_law_700 ?_
  refine va_sld hx hb hX hbl hbA hW.2.2.2.1 (hv 1 (by decide)) dL_law_701 ?_
  obtain ⟨fs, hfs⟩ := cm_at cc h ad a2 am S1 S3 T
  refine q_VL hC hW (c2.lift (CW cc h ad a2 S1 S3) [] (List.append_nil _).symm (List.append_nil _).symm) mL_95 81 hfs rfl ⟨Nat.le_of_ble_eq_true rfl, Nat.le_of_ble_eq_true rfl⟩ rfl hl.1 rfl (Nat.le_of_ble_eq_true rfl) hcs dL_law_702 (fun H locs hW => ?_)
  exact q_jeq (tgt := 870) hC dL_law_705 dL_law_706 (by decide) (fun _ => kk S1 S3 T1 _ _ j hW) (fun c_ => absurd rfl c_)
set_option maxHeartbeats 4000000 in
set_option maxRecDepth 100000 in
theorem law_19 (hC : Cx p m c cL_law 4 s #[Value.ref b] RL) (hX : va_X b L xs s s.heap) (hbl : b < s.heap.size) (hcs : cells + 0 ≤ room_1.cells ∧ slots + 0 ≤ room_1.slots) (hv : ∀ k : Nat, k ≤ 6 → vp_in (i + nI k) L) (hJ : JJ S S2 T B M) (hB : 0 ≤ B ∧ B ≤ 199000) (hM : M ≤ 511) (hW : Wd D cc (CW cc h ad a2 S S2 ++ MW cc am T) (fun q : Nat => s.heap.size ≤ q) s.heap H locs s) (hl : lv_has ls 4 [(3, .int i), (0, .ref b), (1, .ref h), (2, .ref (am 0))])
    (kk : ∀ (S1 S3 T1 : St) (H1 : Heap) (locs1 : List Loc), JJ S1 S3 T1 (B + 300) (M + 1) → Wd D cc (CW cc h ad a2 S1 S3 ++ MW cc am T1) (fun q : Nat => s.heap.size ≤ q) s.heap H1 locs1 s → W p l e room_1 s m #[Value.ref b] below meth c H1 locs1 cells slots Q (F0 m 870 ls [])) : W p l e room_1 s m #[Value.ref b] below meth c H locs cells slots Q (F0 m 711 ls []) := by
  obtain ⟨⟨hx, hb, hml, hown, hts⟩, hNW⟩ := id hC
  have hbA : ¬ (fun q : Nat => s.heap.size ≤ q) b := Nat.not_le.mpr hbl
  obtain ⟨r, S1, S3, T1, c1, c2, j⟩ := st_slackSpans l D cc h ad a2 am hJ hB hM 
  refine lv_aload_n hx hb dL_law_711 rfl (lv_at hl 2 rfl) ?_
  refine q_VI hC hW (c1.lift [] (MW cc am T) rfl rfl) mL_96 0 rfl rfl ⟨Nat.le_of_ble_eq_true rfl, Nat.le_of_ble_eq_true rfl⟩ rfl hl.1 rfl (Nat.le_of_ble_eq_true rfl) hcs dL_law_712 (fun H locs hW => ?_)
  refine lv_aload_n hx hb dL_law_715 rfl (lv_at hl 3 rfl) ?_
  obtain ⟨fs, hfs⟩ := cm_at cc h ad a2 am S1 S3 T
  refine q_VI hC hW (c2.lift (CW cc h ad a2 S1 S3) [] (List.append_nil _).symm (List.append_nil _).symm) mL_99 81 hfs rfl ⟨Nat.le_of_ble_eq_true rfl, Nat.le_of_ble_eq_true rfl⟩ rfl hl.1 rfl (Nat.le_of_ble_eq_true rfl) hcs dL_law_716 (fun H locs hW => ?_)
  exact lv_icmp_eq (tgt := 870) hx hb dL_law_719 (by decide) (fun _ => kk S1 S3 T1 _ _ j hW) (fun c_ => absurd rfl c_)
set_option maxHeartbeats 4000000 in
set_option maxRecDepth 100000 in
theorem law_20 (hC : Cx p m c cL_law 4 s #[Value.ref b] RL) (hX : va_X b L xs s s.heap) (hbl : b < s.heap.size) (hcs : cells + 0 ≤ room_1.cells ∧ slots + 0 ≤ room_1.slots) (hv : ∀ k : Nat, k ≤ 6 → vp_in (i + nI k) L) (hJ : JJ S S2 T B M) (hB : 0 ≤ B ∧ B ≤ 199000) (hM : M ≤ 511) (hW : Wd D cc (CW cc h ad a2 S S2 ++ MW cc am T) (fun q : Nat => s.heap.size ≤ q) s.heap H locs s) (hl : lv_has ls 4 [(3, .int i), (0, .ref b), (1, .ref h), (2, .ref (am 0))])
    (kk : ∀ (S1 S3 T1 : St) (H1 : Heap) (locs1 : List Loc), JJ S1 S3 T1 (B + 300) (M + 1) → Wd D cc (CW cc h ad a2 S1 S3 ++ MW cc am T1) (fun q : Nat => s.heap.size ≤ q) s.heap H1 locs1 s → W p l e room_1 s m #[Value.ref b] below meth c H1 locs1 cells slots Q (F0 m 870 ls [])) : W p l e room_1 s m #[Value.ref b] below meth c H locs cells slots Q (F0 m 724 ls []) := by
  obtain ⟨⟨hx, hb, hml, hown, hts⟩, hNW⟩ := id hC
  have hbA : ¬ (fun q : Nat => s.heap.size ≤ q) b := Nat.not_le.mpr hbl
  obtain ⟨r, S1, S3, T1, c1, c2, j⟩ := st_event l D cc h ad a2 am hJ hB hM (xs (i + 1).toNatClampNeg) (xs (i + 2).toNatClampNeg)
  refine lv_aload_n hx hb dL_law_724 rfl (lv_at hl 2 rfl) ?_
  refine lv_aload_n hx hb dL_law_725 rfl (lv_at hl 1 rfl) ?_
  refine lv_iload_n hx hb dL_law_726 rfl (lv_at hl 0 rfl) ?_
  refine lv_iconst (v := 1) hx hb dL_law_727 (by decide) ?_
  refine lv_iadd hx hb dL_law_728 ?_
  refine va_sld hx hb hX hbl hbA hW.2.2.2.1 (hv 1 (by decide)) dL_law_729 ?_
  refine lv_aload_n hx hb dL_law_730 rfl (lv_at hl 1 rfl) ?_
  refine lv_iload_n hx hb dL_law_731 rfl (lv_at hl 0 rfl) ?_
  refine lv_iconst (v := 2) hx hb dL_law_732 (by decide) ?_
  refine lv_iadd hx hb dL_law_733 ?_
  refine va_sld hx hb hX hbl hbA hW.2.2.2.1 (hv 2 (by decide)) dL_law_734 ?_
  refine q_VI hC hW (c1.lift [] (MW cc am T) rfl rfl) mL_100 0 rfl rfl ⟨Nat.le_of_ble_eq_true rfl, Nat.le_of_ble_eq_true rfl⟩ rfl hl.1 rfl (Nat.le_of_ble_eq_true rfl) hcs dL_law_735 (fun H locs hW => ?_)
  refine lv_aload_n hx hb dL_law_738 rfl (lv_at hl 3 rfl) ?_
  refine lv_aload_n hx hb dL_law_739 rfl (lv_at hl 1 rfl) ?_
  refine lv_iload_n hx hb dL_law_740 rfl (lv_at hl 0 rfl) ?_
  refine lv_iconst (v := 1) hx hb dL_law_741 (by decide) ?_
  refine lv_iadd hx hb dL_law_742 ?_
  refine va_sld hx hb hX hbl hbA hW.2.2.2.1 (hv 1 (by decide)) dL_law_743 ?_
  refine lv_aload_n hx hb dL_law_744 rfl (lv_at hl 1 rfl) ?_
  refine lv_iload_n hx hb dL_law_745 rfl (lv_at hl 0 rfl) ?_
  refine lv_iconst (v := 2) hx hb dL_law_746 (by decide) ?_
  refine lv_iadd hx hb dL_law_747 ?_
  refine va_sld hx hb hX hbl hbA hW.2.2.2.1 (hv 2 (by decide)) dL_law_748 ?_
  obtain ⟨fs, hfs⟩ := cm_at cc h ad a2 am S1 S3 T
  refine q_VI hC hW (c2.lift (CW cc h ad a2 S1 S3) [] (List.append_nil _).symm (List.append_nil _).symm) mL_103 81 hfs rfl ⟨Nat.le_of_ble_eq_true rfl, Nat.le_of_ble_eq_true rfl⟩ rfl hl.1 rfl (Nat.le_of_ble_eq_true rfl) hcs dL_law_749 (fun H locs hW => ?_)
  exact lv_icmp_eq (tgt := 870) hx hb dL_law_752 (by decide) (fun _ => kk S1 S3 T1 _ _ j hW) (fun c_ => absurd rfl c_)
set_option maxHeartbeats 4000000 in
set_option maxRecDepth 100000 in
theorem law_21 (hC : Cx p m c cL_law 4 s #[Value.ref b] RL) (hX : va_X b L xs s s.heap) (hbl : b < s.heap.size) (hcs : cells + 0 ≤ room_1.cells ∧ slots + 0 ≤ room_1.slots) (hv : ∀ k : Nat, k ≤ 6 → vp_in (i + nI k) L) (hJ : JJ S S2 T B M) (hB : 0 ≤ B ∧ B ≤ 199000) (hM : M ≤ 511) (hW : Wd D cc (CW cc h ad a2 S S2 ++ MW cc am T) (fun q : Nat => s.heap.size ≤ q) s.heap H locs s) (hl : lv_has ls 4 [(3, .int i), (0, .ref b), (1, .ref h), (2, .ref (am 0))])
    (kk : ∀ (S1 S3 T1 : St) (H1 : Heap) (locs1 : List Loc), JJ S1 S3 T1 (B + 300) (M + 1) → Wd D cc (CW cc h ad a2 S1 S3 ++ MW cc am T1) (fun q : Nat => s.heap.size ≤ q) s.heap H1 locs1 s → W p l e room_1 s m #[Value.ref b] below meth c H1 locs1 cells slots Q (F0 m 870 ls [])) : W p l e room_1 s m #[Value.ref b] below meth c H locs cells slots Q (F0 m 757 ls []) := by
  obtain ⟨⟨hx, hb, hml, hown, hts⟩, hNW⟩ := id hC
  have hbA : ¬ (fun q : Nat => s.heap.size ≤ q) b := Nat.not_le.mpr hbl
  obtain ⟨r, S1, S3, T1, c1, c2, j⟩ := st_steadyTension l D cc h ad a2 am hJ hB hM (xs (i + 1).toNatClampNeg)
  refine lv_aload_n hx hb dL_law_757 rfl (lv_at hl 2 rfl) ?_
  refine lv_aload_n hx hb dL_law_758 rfl (lv_at hl 1 rfl) ?_
  refine lv_iload_n hx hb dL_law_759 rfl (lv_at hl 0 rfl) ?_
  refine lv_iconst (v := 1) hx hb dL_law_760 (by decide) ?_
  refine lv_iadd hx hb dL_law_761 ?_
  refine va_sld hx hb hX hbl hbA hW.2.2.2.1 (hv 1 (by decide)) dL_law_762 ?_
  refine q_VI hC hW (c1.lift [] (MW cc am T) rfl rfl) mL_104 0 rfl rfl ⟨Nat.le_of_ble_eq_true rfl, Nat.le_of_ble_eq_true rfl⟩ rfl hl.1 rfl (Nat.le_of_ble_eq_true rfl) hcs dL_law_763 (fun H locs hW => ?_)
  refine lv_aload_n hx hb dL_law_766 rfl (lv_at hl 3 rfl) ?_
  refine lv_aload_n hx hb dL_law_767 rfl (lv_at hl 1 rfl) ?_
  refine lv_iload_n hx hb dL_law_768 rfl (lv_at hl 0 rfl) ?_
  refine lv_iconst (v := 1) hx hb dL_law_769 (by decide) ?_
  refine lv_iadd hx hb dL_law_770 ?_
  refine va_sld hx hb hX hbl hbA hW.2.2.2.1 (hv 1 (by decide)) dL_law_771 ?_
  obtain ⟨fs, hfs⟩ := cm_at cc h ad a2 am S1 S3 T
  refine q_VI hC hW (c2.lift (CW cc h ad a2 S1 S3) [] (List.append_nil _).symm (List.append_nil _).symm) mL_107 81 hfs rfl ⟨Nat.le_of_ble_eq_true rfl, Nat.le_of_ble_eq_true rfl⟩ rfl hl.1 rfl (Nat.le_of_ble_eq_true rfl) hcs dL_law_772 (fun H locs hW => ?_)
  exact lv_icmp_eq (tgt := 870) hx hb dL_law_775 (by decide) (fun _ => kk S1 S3 T1 _ _ j hW) (fun c_ => absurd rfl c_)
set_option maxHeartbeats 4000000 in
set_option maxRecDepth 100000 in
theorem law_22 (hC : Cx p m c cL_law 4 s #[Value.ref b] RL) (hX : va_X b L xs s s.heap) (hbl : b < s.heap.size) (hcs : cells + 0 ≤ room_1.cells ∧ slots + 0 ≤ room_1.slots) (hv : ∀ k : Nat, k ≤ 6 → vp_in (i + nI k) L) (hJ : JJ S S2 T B M) (hB : 0 ≤ B ∧ B ≤ 199000) (hM : M ≤ 511) (hW : Wd D cc (CW cc h ad a2 S S2 ++ MW cc am T) (fun q : Nat => s.heap.size ≤ q) s.heap H locs s) (hl : lv_has ls 4 [(3, .int i), (0, .ref b), (1, .ref h), (2, .ref (am 0))])
    (kk : ∀ (S1 S3 T1 : St) (H1 : Heap) (locs1 : List Loc), JJ S1 S3 T1 (B + 300) (M + 1) → Wd D cc (CW cc h ad a2 S1 S3 ++ MW cc am T1) (fun q : Nat => s.heap.size ≤ q) s.heap H1 locs1 s → W p l e room_1 s m #[Value.ref b] below meth c H1 locs1 cells slots Q (F0 m 870 ls [])) : W p l e room_1 s m #[Value.ref b] below meth c H locs cells slots Q (F0 m 780 ls []) := by
  obtain ⟨⟨hx, hb, hml, hown, hts⟩, hNW⟩ := id hC
  have hbA : ¬ (fun q : Nat => s.heap.size ≤ q) b := Nat.not_le.mpr hbl
  obtain ⟨r, S1, S3, T1, c1, c2, j⟩ := st_bestDraw l D cc h ad a2 am hJ hB hM (xs (i + 1).toNatClampNeg) (xs (i + 2).toNatClampNeg)
  refine lv_aload_n hx hb dL_law_780 rfl (lv_at hl 2 rfl) ?_
  refine lv_aload_n hx hb dL_law_781 rfl (lv_at hl 1 rfl) ?_
  refine lv_iload_n hx hb dL_law_782 rfl (lv_at hl 0 rfl) ?_
  refine lv_iconst (v := 1) hx hb dL_law_783 (by decide) ?_
  refine lv_iadd hx hb dL_law_784 ?_
  refine va_sld hx hb hX hbl hbA hW.2.2.2.1 (hv 1 (by decide)) dL_law_785 ?_
  refine lv_aload_n hx hb dL_law_786 rfl (lv_at hl 1 rfl) ?_
  refine lv_iload_n hx hb dL_law_787 rfl (lv_at hl 0 rfl) ?_
  refine lv_iconst (v := 2) hx hb dL_law_788 (by decide) ?_
  refine lv_iadd hx hb dL_law_789 ?_
  refine va_sld hx hb hX hbl hbA hW.2.2.2.1 (hv 2 (by decide)) dL_law_790 ?_
  refine q_VI hC hW (c1.lift [] (MW cc am T) rfl rfl) mL_108 0 rfl rfl ⟨Nat.le_of_ble_eq_true rfl, Nat.le_of_ble_eq_true rfl⟩ rfl hl.1 rfl (Nat.le_of_ble_eq_true rfl) hcs dL_law_791 (fun H locs hW => ?_)
  refine lv_aload_n hx hb dL_law_794 rfl (lv_at hl 3 rfl) ?_
  refine lv_aload_n hx hb dL_law_795 rfl (lv_at hl 1 rfl) ?_
  refine lv_iload_n hx hb dL_law_796 rfl (lv_at hl 0 rfl) ?_
  refine lv_iconst (v := 1) hx hb dL_law_797 (by decide) ?_
  refine lv_iadd hx hb dL_law_798 ?_
  refine va_sld hx hb hX hbl hbA hW.2.2.2.1 (hv 1 (by decide)) dL_law_799 ?_
  refine lv_aload_n hx hb dL_law_800 rfl (lv_at hl 1 rfl) ?_
  refine lv_iload_n hx hb dL_law_801 rfl (lv_at hl 0 rfl) ?_
  refine lv_iconst (v := 2) hx hb dL_law_802 (by decide) ?_
  refine lv_iadd hx hb dL_law_803 ?_
  refine va_sld hx hb hX hbl hbA hW.2.2.2.1 (hv 2 (by decide)) dL_law_804 ?_
  obtain ⟨fs, hfs⟩ := cm_at cc h ad a2 am S1 S3 T
  refine q_VI hC hW (c2.lift (CW cc h ad a2 S1 S3) [] (List.append_nil _).symm (List.append_nil _).symm) mL_111 81 hfs rfl ⟨Nat.le_of_ble_eq_true rfl, Nat.le_of_ble_eq_true rfl⟩ rfl hl.1 rfl (Nat.le_of_ble_eq_true rfl) hcs dL_law_805 (fun H locs hW => ?_)
  exact lv_icmp_eq (tgt := 870) hx hb dL_law_808 (by decide) (fun _ => kk S1 S3 T1 _ _ j hW) (fun c_ => absurd rfl c_)
set_option maxHeartbeats 4000000 in
set_option maxRecDepth 100000 in
theorem law_23 (hC : Cx p m c cL_law 4 s #[Value.ref b] RL) (hX : va_X b L xs s s.heap) (hbl : b < s.heap.size) (hcs : cells + 0 ≤ room_1.cells ∧ slots + 0 ≤ room_1.slots) (hv : ∀ k : Nat, k ≤ 6 → vp_in (i + nI k) L) (hJ : JJ S S2 T B M) (hB : 0 ≤ B ∧ B ≤ 199000) (hM : M ≤ 511) (hW : Wd D cc (CW cc h ad a2 S S2 ++ MW cc am T) (fun q : Nat => s.heap.size ≤ q) s.heap H locs s) (hl : lv_has ls 4 [(3, .int i), (0, .ref b), (1, .ref h), (2, .ref (am 0))])
    (kk : ∀ (S1 S3 T1 : St) (H1 : Heap) (locs1 : List Loc), JJ S1 S3 T1 (B + 300) (M + 1) → Wd D cc (CW cc h ad a2 S1 S3 ++ MW cc am T1) (fun q : Nat => s.heap.size ≤ q) s.heap H1 locs1 s → W p l e room_1 s m #[Value.ref b] below meth c H1 locs1 cells slots Q (F0 m 870 ls [])) : W p l e room_1 s m #[Value.ref b] below meth c H locs cells slots Q (F0 m 813 ls []) := by
  obtain ⟨⟨hx, hb, hml, hown, hts⟩, hNW⟩ := id hC
  have hbA : ¬ (fun q : Nat => s.heap.size ≤ q) b := Nat.not_le.mpr hbl
  obtain ⟨r, S1, S3, T1, c1, c2, j⟩ := st_forecast l D cc h ad a2 am hJ hB hM (xs (i + 1).toNatClampNeg) (xs (i + 2).toNatClampNeg)
  refine lv_aload_n hx hb dL_law_813 rfl (lv_at hl 2 rfl) ?_
  refine lv_aload_n hx hb dL_law_814 rfl (lv_at hl 1 rfl) ?_
  refine lv_iload_n hx hb dL_law_815 rfl (lv_at hl 0 rfl) ?_
  refine lv_iconst (v := 1) hx hb dL_law_816 (by decide) ?_
  refine lv_iadd hx hb dL_law_817 ?_
  refine va_sld hx hb hX hbl hbA hW.2.2.2.1 (hv 1 (by decide)) dL_law_818 ?_
  refine lv_aload_n hx hb dL_law_819 rfl (lv_at hl 1 rfl) ?_
  refine lv_iload_n hx hb dL_law_820 rfl (lv_at hl 0 rfl) ?_
  refine lv_iconst (v := 2) hx hb dL_law_821 (by decide) ?_
  refine lv_iadd hx hb dL_law_822 ?_
  refine va_sld hx hb hX hbl hbA hW.2.2.2.1 (hv 2 (by decide)) dL_law_823 ?_
  refine q_VL hC hW (c1.lift [] (MW cc am T) rfl rfl) mL_112 0 rfl rfl ⟨Nat.le_of_ble_eq_true rfl, Nat.le_of_ble_eq_true rfl⟩ rfl hl.1 rfl (Nat.le_of_ble_eq_true rfl) hcs dL_law_824 (fun H locs hW => ?_)
  refine lv_aload_n hx hb dL_law_827 rfl (lv_at hl 3 rfl) ?_
  refine lv_aload_n hx hb dL_law_828 rfl (lv_at hl 1 rfl) ?_
  refine lv_iload_n hx hb dL_law_829 rfl (lv_at hl 0 rfl) ?_
  refine lv_iconst (v := 1) hx hb dL_law_830 (by decide) ?_
  refine lv_iadd hx hb dL_law_831 ?_
  refine va_sld hx hb hX hbl hbA hW.2.2.2.1 (hv 1 (by decide)) dL_law_832 ?_
  refine lv_aload_n hx hb dL_law_833 rfl (lv_at hl 1 rfl) ?_
  refine lv_iload_n hx hb dL_law_834 rfl (lv_at hl 0 rfl) ?_
  refine lv_iconst (v := 2) hx hb dL_law_835 (by decide) ?_
  refine lv_iadd hx hb dL_law_836 ?_
  refine va_sld hx hb hX hbl hbA hW.2.2.2.1 (hv 2 (by decide)) dL_law_837 ?_
  obtain ⟨fs, hfs⟩ := cm_at cc h ad a2 am S1 S3 T
  refine q_VL hC hW (c2.lift (CW cc h ad a2 S1 S3) [] (List.append_nil _).symm (List.append_nil _).symm) mL_115 81 hfs rfl ⟨Nat.le_of_ble_eq_true rfl, Nat.le_of_ble_eq_true rfl⟩ rfl hl.1 rfl (Nat.le_of_ble_eq_true rfl) hcs dL_law_838 (fun H locs hW => ?_)
  exact q_jeq (tgt := 870) hC dL_law_841 dL_law_842 (by decide) (fun _ => kk S1 S3 T1 _ _ j hW) (fun c_ => absurd rfl c_)
set_option maxHeartbeats 4000000 in
set_option maxRecDepth 100000 in
theorem law_24 (hC : Cx p m c cL_law 4 s #[Value.ref b] RL) (hX : va_X b L xs s s.heap) (hbl : b < s.heap.size) (hcs : cells + 0 ≤ room_1.cells ∧ slots + 0 ≤ room_1.slots) (hv : ∀ k : Nat, k ≤ 6 → vp_in (i + nI k) L) (hJ : JJ S S2 T B M) (hB : 0 ≤ B ∧ B ≤ 199000) (hM : M ≤ 511) (hW : Wd D cc (CW cc h ad a2 S S2 ++ MW cc am T) (fun q : Nat => s.heap.size ≤ q) s.heap H locs s) (hl : lv_has ls 4 [(3, .int i), (0, .ref b), (1, .ref h), (2, .ref (am 0))])
    (kk : ∀ (S1 S3 T1 : St) (H1 : Heap) (locs1 : List Loc), JJ S1 S3 T1 (B + 300) (M + 1) → Wd D cc (CW cc h ad a2 S1 S3 ++ MW cc am T1) (fun q : Nat => s.heap.size ≤ q) s.heap H1 locs1 s → W p l e room_1 s m #[Value.ref b] below meth c H1 locs1 cells slots Q (F0 m 870 ls [])) : W p l e room_1 s m #[Value.ref b] below meth c H locs cells slots Q (F0 m 847 ls []) := by
  obtain ⟨⟨hx, hb, hml, hown, hts⟩, hNW⟩ := id hC
  have hbA : ¬ (fun q : Nat => s.heap.size ≤ q) b := Nat.not_le.mpr hbl
  obtain ⟨r, S1, S3, T1, c1, c2, j⟩ := st_outlook l D cc h ad a2 am hJ hB hM (xs (i + 1).toNatClampNeg)
  refine lv_aload_n hx hb dL_law_847 rfl (lv_at hl 2 rfl) ?_
  refine lv_aload_n hx hb dL_law_848 rfl (lv_at hl 1 rfl) ?_
  refine lv_iload_n hx hb dL_law_849 rfl (lv_at hl 0 rfl) ?_
  refine lv_iconst (v := 1) hx hb dL_law_850 (by decide) ?_
  refine lv_iadd hx hb dL_law_851 ?_
  refine va_sld hx hb hX hbl hbA hW.2.2.2.1 (hv 1 (by decide)) dL_law_852 ?_
  refine q_VI hC hW (c1.lift [] (MW cc am T) rfl rfl) mL_116 0 rfl rfl ⟨Nat.le_of_ble_eq_true rfl, Nat.le_of_ble_eq_true rfl⟩ rfl hl.1 rfl (Nat.le_of_ble_eq_true rfl) hcs dL_law_853 (fun H locs hW => ?_)
  refine lv_aload_n hx hb dL_law_856 rfl (lv_at hl 3 rfl) ?_
  refine lv_aload_n hx hb dL_law_857 rfl (lv_at hl 1 rfl) ?_
  refine lv_iload_n hx hb dL_law_858 rfl (lv_at hl 0 rfl) ?_
  refine lv_iconst (v := 1) hx hb dL_law_859 (by decide) ?_
  refine lv_iadd hx hb dL_law_860 ?_
  refine va_sld hx hb hX hbl hbA hW.2.2.2.1 (hv 1 (by decide)) dL_law_861 ?_
  obtain ⟨fs, hfs⟩ := cm_at cc h ad a2 am S1 S3 T
  refine q_VI hC hW (c2.lift (CW cc h ad a2 S1 S3) [] (List.append_nil _).symm (List.append_nil _).symm) mL_119 81 hfs rfl ⟨Nat.le_of_ble_eq_true rfl, Nat.le_of_ble_eq_true rfl⟩ rfl hl.1 rfl (Nat.le_of_ble_eq_true rfl) hcs dL_law_862 (fun H locs hW => ?_)
  exact lv_icmp_eq (tgt := 870) hx hb dL_law_865 (by decide) (fun _ => kk S1 S3 T1 _ _ j hW) (fun c_ => absurd rfl c_)
end Law
