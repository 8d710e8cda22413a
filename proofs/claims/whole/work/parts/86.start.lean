/-! ===== the law's loop and its start ===== -/
set_option maxHeartbeats 4000000 in
set_option maxRecDepth 100000 in
theorem law_loop {p : Program} {l : Launch} {e : Env} {s : State} {m : MethodId} {below : List Frame} {meth : Method} {c : Code} {b L : Nat} {xs : Nat → Int32} (hL : L ≤ 3584) (C0 : lw_At p s m meth c b L xs) (hC : Cx p m c cL_law 4 s #[Value.ref b] RL) {D : va_G} {cc : Nat → ClassId} {h : Nat} {ad a2 am : Nat → Nat} {cells slots : Nat} (hcs : cells + 0 ≤ room_1.cells ∧ slots + 0 ≤ room_1.slots) :
    ∀ (n t : Nat), 7 * t ≤ L → L < 7 * (t + n) → ∀ (S S2 T : St), JJ S S2 T (300 * (t : Int)) t → ∀ (H : Heap) (locs : List Loc), Wd D cc (CW cc h ad a2 S S2 ++ MW cc am T) (fun q : Nat => s.heap.size ≤ q) s.heap H locs s → ∀ (ls : Array Slot), lv_has ls 4 [(3, .int (nI (7 * t))), (0, .ref b), (1, .ref h), (2, .ref (am 0))] → W p l e room_1 s m #[Value.ref b] below meth c H locs cells slots (lw_Z below #[Value.ref b] s) (F0 m 18 ls []) := by
  obtain ⟨hx, hb, hr, hml, hown, hts, hX, hbl, hlocks, hgv⟩ := id C0
  have hbA : ¬ (fun q : Nat => s.heap.size ≤ q) b := Nat.not_le.mpr hbl
  intro n
  induction n with
  | zero =>
    intro t h1 h2
    exact absurd h2 (by omega)
  | succ n ih =>
    intro t h1 h2 S S2 T hJ H locs hW ls hl
    refine lv_iload_n hx hb dL_law_18 rfl (lv_at hl 0 rfl) ?_
    refine lv_aload_n hx hb dL_law_19 rfl (lv_at hl 1 rfl) ?_
    refine va_slen hx hb hX hbl hbA hW.2.2.2.1 dL_law_20 ?_
    refine lv_bipush (v := 7) hx hb dL_law_21 (by decide) ?_
    refine lv_isub hx hb dL_law_23 ?_
    have e7 : (7 : Int32).toInt = 7 := rfl
    have eL : (Int32.ofNat L).toInt = L := (nN (a := L) (by omega) : (nI L).toInt = (L : Int))
    have eS : (Int32.ofNat L - 7).toInt = (L : Int) - 7 := by rw [isub (by rw [eL, e7]; omega), eL, e7]
    have eI : (nI (7 * t)).toInt = ((7 * t : Nat) : Int) := nN (by omega)
    refine lv_icmp_gt (tgt := 876) hx hb dL_law_24 (by decide) (fun c_ => ?_) (fun c_ => ?_)
    · refine lv_iconst (v := 1) hx hb dL_law_876 (by decide) ?_
      refine va_forget (fun q hq => hW.2.2.2.1.2.2 q hq) ?_
      refine W.widen (k := 600000) (n := 7302250) hcs.1 hcs.2 ?_
      exact lw_ret hx hb hr hlocks dL_law_877
    · have h7 : 7 * t + 7 ≤ L := by
        rw [ilt, eS, eI] at c_
        omega
      have hv : ∀ k : Nat, k ≤ 6 → vp_in (nI (7 * t) + nI k) L := by
        intro k hk
        rw [nI_add]
        exact vp_in_nI (by omega) (by omega)
      have hB : 0 ≤ 300 * (t : Int) ∧ 300 * (t : Int) ≤ 199000 := by omega
      have hM : t ≤ 511 := by omega
      have next : ∀ (S1 S3 T1 : St) (H1 : Heap) (locs1 : List Loc), JJ S1 S3 T1 (300 * (t : Int) + 300) (t + 1) → Wd D cc (CW cc h ad a2 S1 S3 ++ MW cc am T1) (fun q : Nat => s.heap.size ≤ q) s.heap H1 locs1 s → W p l e room_1 s m #[Value.ref b] below meth c H1 locs1 cells slots (lw_Z below #[Value.ref b] s) (F0 m 870 ls []) := by
        intro S1 S3 T1 H1 locs1 j1 hW1
        refine lv_iinc (v := (nI (7 * t + 7))) (lv' := [(3, .int (nI (7 * t + 7))), (0, .ref b), (1, .ref h), (2, .ref (am 0))]) hx hb dL_law_870 hl (k := 0) rfl (nq_inc (7 * t) 7) (by decide) rfl (fun ls hl => ?_)
        refine lv_goto (tgt := 18) hx hb dL_law_873 (by decide) ?_
        have eB : 300 * ((t + 1 : Nat) : Int) = 300 * (t : Int) + 300 := by omega
        exact ih (t + 1) (by omega) (by omega) S1 S3 T1 (by rw [eB]; exact j1) H1 locs1 hW1 ls hl
      refine lv_aload_n hx hb dL_law_27 rfl (lv_at hl 1 rfl) ?_
      refine lv_iload_n hx hb dL_law_28 rfl (lv_at hl 0 rfl) ?_
      refine va_sld hx hb hX hbl hbA hW.2.2.2.1 (vp_in_nI (by omega) (by omega)) dL_law_29 ?_
      refine lv_bipush (v := 31) hx hb dL_law_30 (by decide) ?_
      refine lv_iand hx hb dL_law_32 ?_
      refine lv_topi (fun x hx_ => ?_)
      by_cases cx : x.toInt < 0 ∨ 24 < x.toInt
      · refine lv_tableOut (tgt := 870) hx hb dL_law_33 cx (by decide) ?_
        exact next S S2 T H locs hJ.up hW
      · have hc : x.toInt = 0 ∨ x.toInt = 1 ∨ x.toInt = 2 ∨ x.toInt = 3 ∨ x.toInt = 4 ∨ x.toInt = 5 ∨ x.toInt = 6 ∨ x.toInt = 7 ∨ x.toInt = 8 ∨ x.toInt = 9 ∨ x.toInt = 10 ∨ x.toInt = 11 ∨ x.toInt = 12 ∨ x.toInt = 13 ∨ x.toInt = 14 ∨ x.toInt = 15 ∨ x.toInt = 16 ∨ x.toInt = 17 ∨ x.toInt = 18 ∨ x.toInt = 19 ∨ x.toInt = 20 ∨ x.toInt = 21 ∨ x.toInt = 22 ∨ x.toInt = 23 ∨ x.toInt = 24 := by omega
        rcases hc with hk | hk | hk | hk | hk | hk | hk | hk | hk | hk | hk | hk | hk | hk | hk | hk | hk | hk | hk | hk | hk | hk | hk | hk | hk
        · exact lv_tableIn (off := 115) (tgt := 148) hx hb dL_law_33 (fun z => cx (Or.inl z)) (fun z => cx (Or.inr z)) (by rw [hk]; rfl) (by decide) (law_0 hC hX hbl hcs hv hJ hB hM hW hl next)
        · exact lv_tableIn (off := 138) (tgt := 171) hx hb dL_law_33 (fun z => cx (Or.inl z)) (fun z => cx (Or.inr z)) (by rw [hk]; rfl) (by decide) (law_1 hC hX hbl hcs hv hJ hB hM hW hl next)
        · exact lv_tableIn (off := 161) (tgt := 194) hx hb dL_law_33 (fun z => cx (Or.inl z)) (fun z => cx (Or.inr z)) (by rw [hk]; rfl) (by decide) (law_2 hC hX hbl hcs hv hJ hB hM hW hl next)
        · exact lv_tableIn (off := 236) (tgt := 269) hx hb dL_law_33 (fun z => cx (Or.inl z)) (fun z => cx (Or.inr z)) (by rw [hk]; rfl) (by decide) (law_3 hC hX hbl hcs hv hJ hB hM hW hl next)
        · exact lv_tableIn (off := 279) (tgt := 312) hx hb dL_law_33 (fun z => cx (Or.inl z)) (fun z => cx (Or.inr z)) (by rw [hk]; rfl) (by decide) (law_4 hC hX hbl hcs hv hJ hB hM hW hl next)
        · exact lv_tableIn (off := 312) (tgt := 345) hx hb dL_law_33 (fun z => cx (Or.inl z)) (fun z => cx (Or.inr z)) (by rw [hk]; rfl) (by decide) (law_5 hC hX hbl hcs hv hJ hB hM hW hl next)
        · exact lv_tableIn (off := 345) (tgt := 378) hx hb dL_law_33 (fun z => cx (Or.inl z)) (fun z => cx (Or.inr z)) (by rw [hk]; rfl) (by decide) (law_6 hC hX hbl hcs hv hJ hB hM hW hl next)
        · exact lv_tableIn (off := 378) (tgt := 411) hx hb dL_law_33 (fun z => cx (Or.inl z)) (fun z => cx (Or.inr z)) (by rw [hk]; rfl) (by decide) (law_7 hC hX hbl hcs hv hJ hB hM hW hl next)
        · exact lv_tableIn (off := 411) (tgt := 444) hx hb dL_law_33 (fun z => cx (Or.inl z)) (fun z => cx (Or.inr z)) (by rw [hk]; rfl) (by decide) (law_8 hC hX hbl hcs hv hJ hB hM hW hl next)
        · exact lv_tableIn (off := 444) (tgt := 477) hx hb dL_law_33 (fun z => cx (Or.inl z)) (fun z => cx (Or.inr z)) (by rw [hk]; rfl) (by decide) (law_9 hC hX hbl hcs hv hJ hB hM hW hl next)
        · exact lv_tableIn (off := 467) (tgt := 500) hx hb dL_law_33 (fun z => cx (Or.inl z)) (fun z => cx (Or.inr z)) (by rw [hk]; rfl) (by decide) (law_10 hC hX hbl hcs hv hJ hB hM hW hl next)
        · exact lv_tableIn (off := 490) (tgt := 523) hx hb dL_law_33 (fun z => cx (Or.inl z)) (fun z => cx (Or.inr z)) (by rw [hk]; rfl) (by decide) (law_11 hC hX hbl hcs hv hJ hB hM hW hl next)
        · exact lv_tableIn (off := 513) (tgt := 546) hx hb dL_law_33 (fun z => cx (Or.inl z)) (fun z => cx (Or.inr z)) (by rw [hk]; rfl) (by decide) (law_12 hC hX hbl hcs hv hJ hB hM hW hl next)
        · exact lv_tableIn (off := 526) (tgt := 559) hx hb dL_law_33 (fun z => cx (Or.inl z)) (fun z => cx (Or.inr z)) (by rw [hk]; rfl) (by decide) (law_13 hC hX hbl hcs hv hJ hB hM hW hl next)
        · exact lv_tableIn (off := 549) (tgt := 582) hx hb dL_law_33 (fun z => cx (Or.inl z)) (fun z => cx (Or.inr z)) (by rw [hk]; rfl) (by decide) (law_14 hC hX hbl hcs hv hJ hB hM hW hl next)
        · exact lv_tableIn (off := 562) (tgt := 595) hx hb dL_law_33 (fun z => cx (Or.inl z)) (fun z => cx (Or.inr z)) (by rw [hk]; rfl) (by decide) (law_15 hC hX hbl hcs hv hJ hB hM hW hl next)
        · exact lv_tableIn (off := 596) (tgt := 629) hx hb dL_law_33 (fun z => cx (Or.inl z)) (fun z => cx (Or.inr z)) (by rw [hk]; rfl) (by decide) (law_16 hC hX hbl hcs hv hJ hB hM hW hl next)
        · exact lv_tableIn (off := 630) (tgt := 663) hx hb dL_law_33 (fun z => cx (Or.inl z)) (fun z => cx (Or.inr z)) (by rw [hk]; rfl) (by decide) (law_17 hC hX hbl hcs hv hJ hB hM hW hl next)
        · exact lv_tableIn (off := 654) (tgt := 687) hx hb dL_law_33 (fun z => cx (Or.inl z)) (fun z => cx (Or.inr z)) (by rw [hk]; rfl) (by decide) (law_18 hC hX hbl hcs hv hJ hB hM hW hl next)
        · exact lv_tableIn (off := 678) (tgt := 711) hx hb dL_law_33 (fun z => cx (Or.inl z)) (fun z => cx (Or.inr z)) (by rw [hk]; rfl) (by decide) (law_19 hC hX hbl hcs hv hJ hB hM hW hl next)
        · exact lv_tableIn (off := 691) (tgt := 724) hx hb dL_law_33 (fun z => cx (Or.inl z)) (fun z => cx (Or.inr z)) (by rw [hk]; rfl) (by decide) (law_20 hC hX hbl hcs hv hJ hB hM hW hl next)
        · exact lv_tableIn (off := 724) (tgt := 757) hx hb dL_law_33 (fun z => cx (Or.inl z)) (fun z => cx (Or.inr z)) (by rw [hk]; rfl) (by decide) (law_21 hC hX hbl hcs hv hJ hB hM hW hl next)
        · exact lv_tableIn (off := 747) (tgt := 780) hx hb dL_law_33 (fun z => cx (Or.inl z)) (fun z => cx (Or.inr z)) (by rw [hk]; rfl) (by decide) (law_22 hC hX hbl hcs hv hJ hB hM hW hl next)
        · exact lv_tableIn (off := 780) (tgt := 813) hx hb dL_law_33 (fun z => cx (Or.inl z)) (fun z => cx (Or.inr z)) (by rw [hk]; rfl) (by decide) (law_23 hC hX hbl hcs hv hJ hB hM hW hl next)
        · exact lv_tableIn (off := 814) (tgt := 847) hx hb dL_law_33 (fun z => cx (Or.inl z)) (fun z => cx (Or.inr z)) (by rw [hk]; rfl) (by decide) (law_24 hC hX hbl hcs hv hJ hB hM hW hl next)
set_option maxHeartbeats 4000000 in
set_option maxRecDepth 100000 in
theorem whole_start {p : Program} {e : Env} {s : State} {m : MethodId} {below : List Frame} {meth : Method} {c : Code} (l : Launch) (hflags : l.flags = flags0) {b L : Nat} {xs : Nat → Int32} (hL : L ≤ 3584) (C0 : lw_At p s m meth c b L xs) : W p l e room_1 s m #[Value.ref b] below meth c s.heap [] 0 0 (lw_Z below #[Value.ref b] s) (entryFrame m ([Value.ref b] : List Value).toArray 4) := by
  obtain ⟨hC, hO, D, cc, hK⟩ := law_facts C0
  obtain ⟨hx, hb, hr, hml, hown, hts, hX, hbl, hlocks, hgv⟩ := id C0
  have hW : Wd D cc ([] : va_W) (fun q : Nat => s.heap.size ≤ q) s.heap s.heap [] s := ⟨fun k q h => by simp at h, hK, ⟨fun i j p q h => by simp at h, fun k q h => by simp at h⟩, va_S.rf, fun _ h => h⟩
  have hl := lv_entry ([.ref b]) (n := 4) (Nat.le_of_ble_eq_true rfl)
  rw [lg_entry_eq]
  generalize (lg_sl ([.ref b]) ++ List.replicate (4 - (lg_sl ([.ref b])).length) Slot.unset).toArray = ls at hl ⊢
  have hl : lv_has ls 4 [(0, .ref b)] := hl
  refine q_new hC hW nL_7 ⟨Nat.le_of_ble_eq_true rfl, Nat.le_of_ble_eq_true rfl⟩ dL_law_0 (fun q1 H hW => ?_)
  refine lv_dup hx hb dL_law_3 rfl ?_
  refine q_IN (pre := []) hC hO hW (n_X11_init l D cc q1) iL_9 ⟨Nat.le_of_ble_eq_true rfl, Nat.le_of_ble_eq_true rfl⟩ hl.1 rfl (Nat.le_of_ble_eq_true rfl) ⟨Nat.le_of_ble_eq_true rfl, Nat.le_of_ble_eq_true rfl⟩ dL_law_4 (fun w2 H locs hR hW => ?_)
  obtain ⟨ad, a2, rfl⟩ := hR
  refine lv_astore_n (lv' := [(1, .ref q1), (0, .ref b)]) hx hb dL_law_7 rfl hl (by decide) rfl (fun ls hl => ?_)
  refine q_new hC hW nL_10 ⟨Nat.le_of_ble_eq_true rfl, Nat.le_of_ble_eq_true rfl⟩ dL_law_8 (fun q2 H hW => ?_)
  refine lv_dup hx hb dL_law_11 rfl ?_
  refine q_IN (pre := CW cc q1 ad a2 S0L S0L) hC hO hW (n_X12_init l D cc q2) iL_12 ⟨Nat.le_of_ble_eq_true rfl, Nat.le_of_ble_eq_true rfl⟩ hl.1 rfl (Nat.le_of_ble_eq_true rfl) ⟨Nat.le_of_ble_eq_true rfl, Nat.le_of_ble_eq_true rfl⟩ dL_law_12 (fun w2 H locs hR hW => ?_)
  obtain ⟨am, rfl, rfl⟩ := hR
  refine lv_astore_n (lv' := [(2, .ref (am 0)), (1, .ref q1), (0, .ref b)]) hx hb dL_law_15 rfl hl (by decide) rfl (fun ls hl => ?_)
  refine lv_iconst (v := 0) hx hb dL_law_16 (by decide) ?_
  refine lv_istore_n (lv' := [(3, .int 0), (2, .ref (am 0)), (1, .ref q1), (0, .ref b)]) hx hb dL_law_17 rfl hl (by decide) rfl (fun ls hl => ?_)
  have j0 := begin_J Zst Zst (x := 1000000) (B := 0) ⟨by decide, by decide⟩ (Int.le_refl 0) 0
  exact law_loop hL C0 hC ⟨Nat.le_of_ble_eq_true rfl, Nat.le_of_ble_eq_true rfl⟩ (L + 1) 0 (by omega) (by omega) S0L S0L T0L ⟨j0.1, j0.2, j0.1.1⟩ H locs hW ls (lv_sub hl [0, 3, 2, 1] rfl)
