/-! ===== the constructor of the line ===== -/
def Zst : St := (fun _ _ => 0, fun _ _ => 0)
def B15 (cc : Nat → ClassId) (al : Nat → Nat) (f g : Nat → Option Nat) : va_W := [((al 0), .inr (3, [.ref (al 1), .ref (al 2), .ref (al 3), .ref (al 5), .ref (al 6), .ref (al 8), .ref (al 12), .ref (al 13), .ref (al 14), .int 0, .int 0, .int 0, .int 0])), ((al 1), .inr (10, [.int 0, .int 0, .int 0, .int 0])), ((al 2), .inr (1, [.int 0, .int 0, .int 0, .int 0, .int 0])), ((al 3), .inr (9, [.ref (al 4), .int 0, .long 0])), ((al 4), .inl (cc 0, 4, .inl (fun _ => 0))), ((al 5), .inr (6, [.long 0, .int 0, .int 0])), ((al 6), .inr (5, [.ref (al 7), .int 0])), ((al 7), .inl (cc 1, 512, .inr (.inl (fun _ => 0)))), ((al 8), .inr (2, [.ref (al 9), .ref (al 10), .ref (al 11), .int 0, .int 0])), ((al 9), .inl (cc 0, 30, .inl (fun _ => 0))), ((al 10), .inl (cc 0, 30, .inl (fun _ => 0))), ((al 11), .inl (cc 0, 30, .inl (fun _ => 0))), ((al 12), .inl (cc 3, 6, .inr (.inr (.inr (.inr f))))), ((al 13), .inl (cc 2, 7, .inr (.inr (.inr (.inr g))))), ((al 14), .inl (cc 1, 7, .inr (.inl (fun _ => 0))))]
def gm (k : Nat) : Nat := if k < 15 then k else if k < 21 then 15 + 3 * (k - 15) else if k < 27 then 15 + 3 * (k - 21) + 1 else if k < 33 then 15 + 3 * (k - 27) + 2 else k
theorem arrV_cg (c : ClassId) (n : Nat) (F G : Nat → Value) (h : ∀ j, j < n → F j = G j) : arrV c n F = arrV c n G := by
  unfold arrV
  have e : (fun j : Fin n => F j.val) = fun j => G j.val := funext fun j => h j.val j.isLt
  rw [e]
theorem at_cg {D : va_G} {cl : List vw_C} {a n : Nat} {c : ClassId} {f g : Nat → Option Nat} {H : Heap} (h : ∀ j, j < n → f j = g j) (hq : va_at D cl (a, .inl (c, n, .inr (.inr (.inr (.inr f))))) H) : va_at D cl (a, .inl (c, n, .inr (.inr (.inr (.inr g))))) H := by
  have hq : H[a]? = some (vp_cell c (n, .inr (.inr (.inr (.inr f))))) := hq
  show H[a]? = some (vp_cell c (n, .inr (.inr (.inr (.inr g)))))
  rw [hq]
  show some (arrV c n (fun j => va_rf (f j))) = some (arrV c n (fun j => va_rf (g j)))
  rw [arrV_cg c n _ (fun j => va_rf (g j)) (fun j hj => by rw [h j hj])]
theorem gm_inj {i j : Nat} (hi : i < 40) (hj : j < 40) (h : gm i = gm j) : i = j := by
  unfold gm at h
  repeat' split at h
  all_goals omega
theorem lay_line {D : va_G} {cc : Nat → ClassId} {ad : Nat → Nat} {f g : Nat → Option Nat} {T : va_W} {A : Nat → Prop} {H0 H : Heap} {locs : List Loc} {s : State} (hW : Wd D cc (B15 cc ad f g ++ T) A H0 H locs s) (hT : ∀ k, 15 ≤ k → k < 40 → T[gm k - 15]? = some (ad k, LC cc ad Zst k)) (hf : ∀ i, i < 6 → f i = some (ad (i + 15))) (hg : ∀ i, i < 7 → g i = some (ad (i + 33))) : Wd D cc (LW cc ad Zst) A H0 H locs s := by
  obtain ⟨hP, hK, hD, hS, hA⟩ := hW
  have key : ∀ k, k < 40 → ∃ e, (B15 cc ad f g ++ T)[gm k]? = some (ad k, e) ∧ (va_at D vwCl (ad k, e) H → va_at D vwCl (ad k, LC cc ad Zst k) H) := by
    intro k hk
    by_cases h15 : k < 15
    · have hc : k = 0 ∨ k = 1 ∨ k = 2 ∨ k = 3 ∨ k = 4 ∨ k = 5 ∨ k = 6 ∨ k = 7 ∨ k = 8 ∨ k = 9 ∨ k = 10 ∨ k = 11 ∨ k = 12 ∨ k = 13 ∨ k = 14 := by omega
      rcases hc with rfl | rfl | rfl | rfl | rfl | rfl | rfl | rfl | rfl | rfl | rfl | rfl | rfl | rfl | rfl
      · exact ⟨_, rfl, id⟩
      · exact ⟨_, rfl, id⟩
      · exact ⟨_, rfl, id⟩
      · exact ⟨_, rfl, id⟩
      · exact ⟨_, rfl, id⟩
      · exact ⟨_, rfl, id⟩
      · exact ⟨_, rfl, id⟩
      · exact ⟨_, rfl, id⟩
      · exact ⟨_, rfl, id⟩
      · exact ⟨_, rfl, id⟩
      · exact ⟨_, rfl, id⟩
      · exact ⟨_, rfl, id⟩
      · exact ⟨_, rfl, at_cg hf⟩
      · exact ⟨_, rfl, at_cg hg⟩
      · exact ⟨_, rfl, id⟩
    · refine ⟨_, ?_, id⟩
      have h1 : 15 ≤ gm k := by
        unfold gm
        repeat' split
        all_goals omega
      rw [List.getElem?_append_right h1]
      exact hT k (by omega) hk
  have len : ∀ (k : Nat) (q : Nat × va_E), (LW cc ad Zst)[k]? = some q → k < 40 := fun k q h => by
    have := (List.getElem?_eq_some_iff.mp h).1
    unfold LW at this
    rw [List.length_map, List.length_range] at this
    exact this
  have val : ∀ (k : Nat) (q : Nat × va_E), (LW cc ad Zst)[k]? = some q → k < 40 ∧ q = (ad k, LC cc ad Zst k) := fun k q h => by
    have hk := len k q h
    rw [LW_at cc ad Zst k hk] at h
    exact ⟨hk, (Option.some.inj h).symm⟩
  refine ⟨fun k q hq => ?_, hK, ⟨fun i j p q hi hj hpq => ?_, fun k q hq => ?_⟩, hS, hA⟩
  · obtain ⟨hk, rfl⟩ := val k q hq
    obtain ⟨e, e1, e2⟩ := key k hk
    exact e2 (hP _ _ e1)
  · obtain ⟨hi2, rfl⟩ := val i p hi
    obtain ⟨hj2, rfl⟩ := val j q hj
    obtain ⟨e, e1, -⟩ := key i hi2
    obtain ⟨e', e1', -⟩ := key j hj2
    exact gm_inj hi2 hj2 (hD.1 _ _ (ad i, e) (ad j, e') e1 e1' hpq)
  · obtain ⟨hk, rfl⟩ := val k q hq
    obtain ⟨e, e1, -⟩ := key k hk
    have z := hD.2 _ (ad k, e) e1
    exact z
section LineNew
variable {p : Program} {l : Launch} {e : Env} {R : Room} {s : State} {m : MethodId} {args : Array Value} {below : List Frame} {meth : Method} {c : Code} {H : Heap} {locs : List Loc} {cells slots : Nat} {Q : State → Prop}
variable {ls : Array Slot} {D : va_G} {cc : Nat → ClassId} {A : Nat → Prop} {H0 : Heap}
set_option maxHeartbeats 4000000 in
set_option maxRecDepth 100000 in
theorem ln_span (hC : Cx p m c cX3_init 2 s args RX3) (hO : AO s) (al : Nat → Nat) (f g : Nat → Option Nat) (T : va_W) (k : Nat) (hk : k < 6) (hcs : cells + 3 ≤ R.cells ∧ slots + 16 ≤ R.slots) (hR : 3 ≤ R.frames ∧ 108 ≤ R.locals) (hW : Wd D cc (B15 cc al f g ++ T) A H0 H locs s) (hl : lv_has ls 2 [(1, .int (nI k)), (0, .ref (al 0))])
    (kk : ∀ (q q1 q2 : Nat) (H1 : Heap) (locs1 : List Loc) (ls1 : Array Slot), Wd D cc (B15 cc al (va_up f k (some q)) g ++ (T ++ [(q, .inr (8, [.ref q1, .ref q2, .int 0, .int 0, .long 0, .long 0, .int 0])), (q1, .inr (0, [.int 0, .int 0, .int 0, .int 0, .int 0, .int 0, .int 0])), (q2, .inr (4, [.int 0, .int 0]))])) A H0 H1 locs1 s → lv_has ls1 2 [(1, .int (nI (k + 1))), (0, .ref (al 0))] → W p l e R s m args below meth c H1 locs1 (cells + 3) (slots + 16) Q (F0 m 98 ls1 [])) : W p l e R s m args below meth c H locs cells slots Q (F0 m 98 ls []) := by
  obtain ⟨⟨hx, hb, hml, hown, hts⟩, hNW⟩ := id hC
  refine lv_iload_n hx hb dX3_init_98 rfl (lv_at hl 0 rfl) ?_
  refine lv_aload_n hx hb dX3_init_99 rfl (lv_at hl 1 rfl) ?_
  refine q_get hC hW kX3_55 0 rfl (v := .ref (al 12)) rfl dX3_init_100 ?_
  refine q_alen hC hW 12 3 rfl rfl (v := nI 6) rfl dX3_init_103 ?_
  refine q_icmp_ge_n (tgt := 126) hx hb (a := k) (b := 6) rfl rfl (by omega) (by omega) dX3_init_104 (by decide) (fun c_ => by exfalso; omega) (fun c_ => ?_)
  refine lv_aload_n hx hb dX3_init_107 rfl (lv_at hl 1 rfl) ?_
  refine q_get hC hW kX3_55 0 rfl (v := .ref (al 12)) rfl dX3_init_108 ?_
  refine lv_iload_n hx hb dX3_init_111 rfl (lv_at hl 0 rfl) ?_
  refine q_new hC hW nX3_53 ⟨by omega, by show slots + 7 ≤ R.slots; omega⟩ dX3_init_112 (fun q H hW => ?_)
  refine lv_dup hx hb dX3_init_115 rfl ?_
  refine q_IN (pre := B15 cc al f g ++ T) hC hO hW (n_X8_init l D cc q) iX3_69 ⟨by omega, by omega⟩ hl.1 rfl (Nat.le_of_ble_eq_true rfl) ⟨by omega, by show slots + 7 + 9 ≤ R.slots; omega⟩ dX3_init_116 (fun w2 H locs hR2 hW => ?_)
  obtain ⟨q1, q2, rfl⟩ := hR2
  have e0 : (B15 cc al f g ++ T).length = 15 + T.length := by rw [List.length_append]; rfl
  refine q_aast hC hW 12 3 (15 + T.length) 8 (r := (RX8, TX8, 7)) rfl rfl (by rw [← e0, List.getElem?_append_right (Nat.le_refl _), Nat.sub_self]; rfl) rfl k rfl hk (by omega) (w2 := B15 cc al (va_up f k (some q)) g ++ (T ++ [(q, .inr (8, [.ref q1, .ref q2, .int 0, .int 0, .long 0, .long 0, .int 0])), (q1, .inr (0, [.int 0, .int 0, .int 0, .int 0, .int 0, .int 0, .int 0])), (q2, .inr (4, [.int 0, .int 0]))])) (by rw [List.append_assoc]; rfl) dX3_init_119 (fun H locs hW => ?_)
  refine lv_iinc (v := (nI (k + 1))) (lv' := [(1, .int (nI (k + 1))), (0, .ref (al 0))]) hx hb dX3_init_120 hl (k := 0) rfl (nq_inc k 1) (by decide) rfl (fun ls hl => ?_)
  refine lv_goto (tgt := 98) hx hb dX3_init_123 (by decide) ?_
  exact kk q q1 q2 _ _ ls hW hl
set_option maxHeartbeats 4000000 in
set_option maxRecDepth 100000 in
theorem ln_roll (hC : Cx p m c cX3_init 2 s args RX3) (hO : AO s) (al : Nat → Nat) (f g : Nat → Option Nat) (T : va_W) (k : Nat) (hk : k < 7) (hcs : cells + 1 ≤ R.cells ∧ slots + 3 ≤ R.slots) (hR : 3 ≤ R.frames ∧ 108 ≤ R.locals) (hW : Wd D cc (B15 cc al f g ++ T) A H0 H locs s) (hl : lv_has ls 2 [(1, .int (nI k)), (0, .ref (al 0))])
    (kk : ∀ (q : Nat) (H1 : Heap) (locs1 : List Loc) (ls1 : Array Slot), Wd D cc (B15 cc al f (va_up g k (some q)) ++ (T ++ [(q, .inr (7, [.long 0, .int 0, .int 0]))])) A H0 H1 locs1 s → lv_has ls1 2 [(1, .int (nI (k + 1))), (0, .ref (al 0))] → W p l e R s m args below meth c H1 locs1 (cells + 1) (slots + 3) Q (F0 m 128 ls1 [])) : W p l e R s m args below meth c H locs cells slots Q (F0 m 128 ls []) := by
  obtain ⟨⟨hx, hb, hml, hown, hts⟩, hNW⟩ := id hC
  refine lv_iload_n hx hb dX3_init_128 rfl (lv_at hl 0 rfl) ?_
  refine lv_aload_n hx hb dX3_init_129 rfl (lv_at hl 1 rfl) ?_
  refine q_get hC hW kX3_61 0 rfl (v := .ref (al 13)) rfl dX3_init_130 ?_
  refine q_alen hC hW 13 2 rfl rfl (v := nI 7) rfl dX3_init_133 ?_
  refine q_icmp_ge_n (tgt := 156) hx hb (a := k) (b := 7) rfl rfl (by omega) (by omega) dX3_init_134 (by decide) (fun c_ => by exfalso; omega) (fun c_ => ?_)
  refine lv_aload_n hx hb dX3_init_137 rfl (lv_at hl 1 rfl) ?_
  refine q_get hC hW kX3_61 0 rfl (v := .ref (al 13)) rfl dX3_init_138 ?_
  refine lv_iload_n hx hb dX3_init_141 rfl (lv_at hl 0 rfl) ?_
  refine q_new hC hW nX3_59 ⟨by omega, by show slots + 3 ≤ R.slots; omega⟩ dX3_init_142 (fun q H hW => ?_)
  refine lv_dup hx hb dX3_init_145 rfl ?_
  refine q_IN (pre := B15 cc al f g ++ T) hC hO hW (n_X7_init l D cc q) iX3_70 ⟨by omega, by omega⟩ hl.1 rfl (Nat.le_of_ble_eq_true rfl) ⟨by omega, by show slots + 3 + 0 ≤ R.slots; omega⟩ dX3_init_146 (fun w2 H locs hR2 hW => ?_)
  obtain rfl := hR2
  have e0 : (B15 cc al f g ++ T).length = 15 + T.length := by rw [List.length_append]; rfl
  refine q_aast hC hW 13 2 (15 + T.length) 7 (r := (RX7, TX7, 3)) rfl rfl (by rw [← e0, List.getElem?_append_right (Nat.le_refl _), Nat.sub_self]; rfl) rfl k rfl hk (by omega) (w2 := B15 cc al f (va_up g k (some q)) ++ (T ++ [(q, .inr (7, [.long 0, .int 0, .int 0]))])) (by rw [List.append_assoc]; rfl) dX3_init_149 (fun H locs hW => ?_)
  refine lv_iinc (v := (nI (k + 1))) (lv' := [(1, .int (nI (k + 1))), (0, .ref (al 0))]) hx hb dX3_init_150 hl (k := 0) rfl (nq_inc k 1) (by decide) rfl (fun ls hl => ?_)
  refine lv_goto (tgt := 128) hx hb dX3_init_153 (by decide) ?_
  exact kk q _ _ ls hW hl
end LineNew
set_option maxHeartbeats 4000000 in
set_option maxRecDepth 100000 in
theorem n_X3_init (l : Launch) (D : va_G) (cc : Nat → ClassId) (h : Nat) : CtN l D cc yX3_init cX3_init 2 3 39 765 [.ref h] [(h, .inr (3, [.null, .null, .null, .null, .null, .null, .null, .null, .null, .int 0, .int 0, .int 0, .int 0]))] (fun w => ∃ ad : Nat → Nat, ad 0 = h ∧ w = LW cc ad (sX3_begin_S Zst 1000000)) := by
  refine CtN.of (by decide +kernel) rfl (Nat.le_of_ble_eq_true rfl) ?_
  intro p e s m args below meth c A Q hC hO hin hW hend ls hl
  obtain ⟨⟨hx, hb, hml, hown, hts⟩, hNW⟩ := id hC
  have hl : lv_has ls 2 [(0, .ref h)] := hl
  refine lv_aload_n hx hb dX3_init_0 rfl (lv_at hl 0 rfl) ?_
  refine q_obj hC oX3_3 hl.1 ⟨Nat.le_of_ble_eq_true rfl, Nat.le_of_ble_eq_true rfl⟩ dX3_init_1 ?_
  refine lv_aload_n hx hb dX3_init_4 rfl (lv_at hl 0 rfl) ?_
  refine q_new hC hW nX3_9 ⟨Nat.le_of_ble_eq_true rfl, Nat.le_of_ble_eq_true rfl⟩ dX3_init_5 (fun a1 H hW => ?_)
  have hW : Wd D cc [(h, .inr (3, [.null, .null, .null, .null, .null, .null, .null, .null, .null, .int 0, .int 0, .int 0, .int 0])), (a1, .inr (10, [.int 0, .int 0, .int 0, .int 0]))] A s.heap _ _ s := hW
  refine lv_dup hx hb dX3_init_8 rfl ?_
  refine q_IN (pre := [(h, .inr (3, [.null, .null, .null, .null, .null, .null, .null, .null, .null, .int 0, .int 0, .int 0, .int 0]))]) hC hO hW (n_X10_init l D cc a1) iX3_11 ⟨Nat.le_of_ble_eq_true rfl, Nat.le_of_ble_eq_true rfl⟩ hl.1 rfl (Nat.le_of_ble_eq_true rfl) ⟨Nat.le_of_ble_eq_true rfl, Nat.le_of_ble_eq_true rfl⟩ dX3_init_9 (fun w2 H locs hR hW => ?_)
  obtain rfl := hR
  have hW : Wd D cc [(h, .inr (3, [.null, .null, .null, .null, .null, .null, .null, .null, .null, .int 0, .int 0, .int 0, .int 0])), (a1, .inr (10, [.int 0, .int 0, .int 0, .int 0]))] A s.heap _ _ s := hW
  refine q_putF hC hin hW jX3_12 0 rfl (w2 := [(h, .inr (3, [.ref a1, .null, .null, .null, .null, .null, .null, .null, .null, .int 0, .int 0, .int 0, .int 0])), (a1, .inr (10, [.int 0, .int 0, .int 0, .int 0]))]) rfl rfl rfl (Nat.le_of_ble_eq_true rfl) dX3_init_12 (fun H locs hW => ?_)
  refine lv_aload_n hx hb dX3_init_15 rfl (lv_at hl 0 rfl) ?_
  refine q_new hC hW nX3_18 ⟨Nat.le_of_ble_eq_true rfl, Nat.le_of_ble_eq_true rfl⟩ dX3_init_16 (fun a2 H hW => ?_)
  have hW : Wd D cc [(h, .inr (3, [.ref a1, .null, .null, .null, .null, .null, .null, .null, .null, .int 0, .int 0, .int 0, .int 0])), (a1, .inr (10, [.int 0, .int 0, .int 0, .int 0])), (a2, .inr (1, [.int 0, .int 0, .int 0, .int 0, .int 0]))] A s.heap _ _ s := hW
  refine lv_dup hx hb dX3_init_19 rfl ?_
  refine q_IN (pre := [(h, .inr (3, [.ref a1, .null, .null, .null, .null, .null, .null, .null, .null, .int 0, .int 0, .int 0, .int 0])), (a1, .inr (10, [.int 0, .int 0, .int 0, .int 0]))]) hC hO hW (n_X1_init l D cc a2) iX3_20 ⟨Nat.le_of_ble_eq_true rfl, Nat.le_of_ble_eq_true rfl⟩ hl.1 rfl (Nat.le_of_ble_eq_true rfl) ⟨Nat.le_of_ble_eq_true rfl, Nat.le_of_ble_eq_true rfl⟩ dX3_init_20 (fun w2 H locs hR hW => ?_)
  obtain rfl := hR
  have hW : Wd D cc [(h, .inr (3, [.ref a1, .null, .null, .null, .null, .null, .null, .null, .null, .int 0, .int 0, .int 0, .int 0])), (a1, .inr (10, [.int 0, .int 0, .int 0, .int 0])), (a2, .inr (1, [.int 0, .int 0, .int 0, .int 0, .int 0]))] A s.heap _ _ s := hW
  refine q_putF hC hin hW jX3_21 0 rfl (w2 := [(h, .inr (3, [.ref a1, .ref a2, .null, .null, .null, .null, .null, .null, .null, .int 0, .int 0, .int 0, .int 0])), (a1, .inr (10, [.int 0, .int 0, .int 0, .int 0])), (a2, .inr (1, [.int 0, .int 0, .int 0, .int 0, .int 0]))]) rfl rfl rfl (Nat.le_of_ble_eq_true rfl) dX3_init_23 (fun H locs hW => ?_)
  refine lv_aload_n hx hb dX3_init_26 rfl (lv_at hl 0 rfl) ?_
  refine q_new hC hW nX3_25 ⟨Nat.le_of_ble_eq_true rfl, Nat.le_of_ble_eq_true rfl⟩ dX3_init_27 (fun a3 H hW => ?_)
  have hW : Wd D cc [(h, .inr (3, [.ref a1, .ref a2, .null, .null, .null, .null, .null, .null, .null, .int 0, .int 0, .int 0, .int 0])), (a1, .inr (10, [.int 0, .int 0, .int 0, .int 0])), (a2, .inr (1, [.int 0, .int 0, .int 0, .int 0, .int 0])), (a3, .inr (9, [.null, .int 0, .long 0]))] A s.heap _ _ s := hW
  refine lv_dup hx hb dX3_init_30 rfl ?_
  refine q_IN (pre := [(h, .inr (3, [.ref a1, .ref a2, .null, .null, .null, .null, .null, .null, .null, .int 0, .int 0, .int 0, .int 0])), (a1, .inr (10, [.int 0, .int 0, .int 0, .int 0])), (a2, .inr (1, [.int 0, .int 0, .int 0, .int 0, .int 0]))]) hC hO hW (n_X9_init l D cc a3) iX3_27 ⟨Nat.le_of_ble_eq_true rfl, Nat.le_of_ble_eq_true rfl⟩ hl.1 rfl (Nat.le_of_ble_eq_true rfl) ⟨Nat.le_of_ble_eq_true rfl, Nat.le_of_ble_eq_true rfl⟩ dX3_init_31 (fun w2 H locs hR hW => ?_)
  obtain ⟨a4, rfl⟩ := hR
  have hW : Wd D cc [(h, .inr (3, [.ref a1, .ref a2, .null, .null, .null, .null, .null, .null, .null, .int 0, .int 0, .int 0, .int 0])), (a1, .inr (10, [.int 0, .int 0, .int 0, .int 0])), (a2, .inr (1, [.int 0, .int 0, .int 0, .int 0, .int 0])), (a3, .inr (9, [.ref a4, .int 0, .long 0])), (a4, .inl (cc 0, 4, .inl (fun _ => 0)))] A s.heap _ _ s := hW
  refine q_putF hC hin hW jX3_28 0 rfl (w2 := [(h, .inr (3, [.ref a1, .ref a2, .ref a3, .null, .null, .null, .null, .null, .null, .int 0, .int 0, .int 0, .int 0])), (a1, .inr (10, [.int 0, .int 0, .int 0, .int 0])), (a2, .inr (1, [.int 0, .int 0, .int 0, .int 0, .int 0])), (a3, .inr (9, [.ref a4, .int 0, .long 0])), (a4, .inl (cc 0, 4, .inl (fun _ => 0)))]) rfl rfl rfl (Nat.le_of_ble_eq_true rfl) dX3_init_34 (fun H locs hW => ?_)
  refine lv_aload_n hx hb dX3_init_37 rfl (lv_at hl 0 rfl) ?_
  refine q_new hC hW nX3_32 ⟨Nat.le_of_ble_eq_true rfl, Nat.le_of_ble_eq_true rfl⟩ dX3_init_38 (fun a5 H hW => ?_)
  have hW : Wd D cc [(h, .inr (3, [.ref a1, .ref a2, .ref a3, .null, .null, .null, .null, .null, .null, .int 0, .int 0, .int 0, .int 0])), (a1, .inr (10, [.int 0, .int 0, .int 0, .int 0])), (a2, .inr (1, [.int 0, .int 0, .int 0, .int 0, .int 0])), (a3, .inr (9, [.ref a4, .int 0, .long 0])), (a4, .inl (cc 0, 4, .inl (fun _ => 0))), (a5, .inr (6, [.long 0, .int 0, .int 0]))] A s.heap _ _ s := hW
  refine lv_dup hx hb dX3_init_41 rfl ?_
  refine q_IN (pre := [(h, .inr (3, [.ref a1, .ref a2, .ref a3, .null, .null, .null, .null, .null, .null, .int 0, .int 0, .int 0, .int 0])), (a1, .inr (10, [.int 0, .int 0, .int 0, .int 0])), (a2, .inr (1, [.int 0, .int 0, .int 0, .int 0, .int 0])), (a3, .inr (9, [.ref a4, .int 0, .long 0])), (a4, .inl (cc 0, 4, .inl (fun _ => 0)))]) hC hO hW (n_X6_init l D cc a5) iX3_34 ⟨Nat.le_of_ble_eq_true rfl, Nat.le_of_ble_eq_true rfl⟩ hl.1 rfl (Nat.le_of_ble_eq_true rfl) ⟨Nat.le_of_ble_eq_true rfl, Nat.le_of_ble_eq_true rfl⟩ dX3_init_42 (fun w2 H locs hR hW => ?_)
  obtain rfl := hR
  have hW : Wd D cc [(h, .inr (3, [.ref a1, .ref a2, .ref a3, .null, .null, .null, .null, .null, .null, .int 0, .int 0, .int 0, .int 0])), (a1, .inr (10, [.int 0, .int 0, .int 0, .int 0])), (a2, .inr (1, [.int 0, .int 0, .int 0, .int 0, .int 0])), (a3, .inr (9, [.ref a4, .int 0, .long 0])), (a4, .inl (cc 0, 4, .inl (fun _ => 0))), (a5, .inr (6, [.long 0, .int 0, .int 0]))] A s.heap _ _ s := hW
  refine q_putF hC hin hW jX3_35 0 rfl (w2 := [(h, .inr (3, [.ref a1, .ref a2, .ref a3, .ref a5, .null, .null, .null, .null, .null, .int 0, .int 0, .int 0, .int 0])), (a1, .inr (10, [.int 0, .int 0, .int 0, .int 0])), (a2, .inr (1, [.int 0, .int 0, .int 0, .int 0, .int 0])), (a3, .inr (9, [.ref a4, .int 0, .long 0])), (a4, .inl (cc 0, 4, .inl (fun _ => 0))), (a5, .inr (6, [.long 0, .int 0, .int 0]))]) rfl rfl rfl (Nat.le_of_ble_eq_true rfl) dX3_init_45 (fun H locs hW => ?_)
  refine lv_aload_n hx hb dX3_init_48 rfl (lv_at hl 0 rfl) ?_
  refine q_new hC hW nX3_39 ⟨Nat.le_of_ble_eq_true rfl, Nat.le_of_ble_eq_true rfl⟩ dX3_init_49 (fun a6 H hW => ?_)
  have hW : Wd D cc [(h, .inr (3, [.ref a1, .ref a2, .ref a3, .ref a5, .null, .null, .null, .null, .null, .int 0, .int 0, .int 0, .int 0])), (a1, .inr (10, [.int 0, .int 0, .int 0, .int 0])), (a2, .inr (1, [.int 0, .int 0, .int 0, .int 0, .int 0])), (a3, .inr (9, [.ref a4, .int 0, .long 0])), (a4, .inl (cc 0, 4, .inl (fun _ => 0))), (a5, .inr (6, [.long 0, .int 0, .int 0])), (a6, .inr (5, [.null, .int 0]))] A s.heap _ _ s := hW
  refine lv_dup hx hb dX3_init_52 rfl ?_
  refine q_IN (pre := [(h, .inr (3, [.ref a1, .ref a2, .ref a3, .ref a5, .null, .null, .null, .null, .null, .int 0, .int 0, .int 0, .int 0])), (a1, .inr (10, [.int 0, .int 0, .int 0, .int 0])), (a2, .inr (1, [.int 0, .int 0, .int 0, .int 0, .int 0])), (a3, .inr (9, [.ref a4, .int 0, .long 0])), (a4, .inl (cc 0, 4, .inl (fun _ => 0))), (a5, .inr (6, [.long 0, .int 0, .int 0]))]) hC hO hW (n_X5_init l D cc a6) iX3_41 ⟨Nat.le_of_ble_eq_true rfl, Nat.le_of_ble_eq_true rfl⟩ hl.1 rfl (Nat.le_of_ble_eq_true rfl) ⟨Nat.le_of_ble_eq_true rfl, Nat.le_of_ble_eq_true rfl⟩ dX3_init_53 (fun w2 H locs hR hW => ?_)
  obtain ⟨a7, rfl⟩ := hR
  have hW : Wd D cc [(h, .inr (3, [.ref a1, .ref a2, .ref a3, .ref a5, .null, .null, .null, .null, .null, .int 0, .int 0, .int 0, .int 0])), (a1, .inr (10, [.int 0, .int 0, .int 0, .int 0])), (a2, .inr (1, [.int 0, .int 0, .int 0, .int 0, .int 0])), (a3, .inr (9, [.ref a4, .int 0, .long 0])), (a4, .inl (cc 0, 4, .inl (fun _ => 0))), (a5, .inr (6, [.long 0, .int 0, .int 0])), (a6, .inr (5, [.ref a7, .int 0])), (a7, .inl (cc 1, 512, .inr (.inl (fun _ => 0))))] A s.heap _ _ s := hW
  refine q_putF hC hin hW jX3_42 0 rfl (w2 := [(h, .inr (3, [.ref a1, .ref a2, .ref a3, .ref a5, .ref a6, .null, .null, .null, .null, .int 0, .int 0, .int 0, .int 0])), (a1, .inr (10, [.int 0, .int 0, .int 0, .int 0])), (a2, .inr (1, [.int 0, .int 0, .int 0, .int 0, .int 0])), (a3, .inr (9, [.ref a4, .int 0, .long 0])), (a4, .inl (cc 0, 4, .inl (fun _ => 0))), (a5, .inr (6, [.long 0, .int 0, .int 0])), (a6, .inr (5, [.ref a7, .int 0])), (a7, .inl (cc 1, 512, .inr (.inl (fun _ => 0))))]) rfl rfl rfl (Nat.le_of_ble_eq_true rfl) dX3_init_56 (fun H locs hW => ?_)
  refine lv_aload_n hx hb dX3_init_59 rfl (lv_at hl 0 rfl) ?_
  refine q_new hC hW nX3_46 ⟨Nat.le_of_ble_eq_true rfl, Nat.le_of_ble_eq_true rfl⟩ dX3_init_60 (fun a8 H hW => ?_)
  have hW : Wd D cc [(h, .inr (3, [.ref a1, .ref a2, .ref a3, .ref a5, .ref a6, .null, .null, .null, .null, .int 0, .int 0, .int 0, .int 0])), (a1, .inr (10, [.int 0, .int 0, .int 0, .int 0])), (a2, .inr (1, [.int 0, .int 0, .int 0, .int 0, .int 0])), (a3, .inr (9, [.ref a4, .int 0, .long 0])), (a4, .inl (cc 0, 4, .inl (fun _ => 0))), (a5, .inr (6, [.long 0, .int 0, .int 0])), (a6, .inr (5, [.ref a7, .int 0])), (a7, .inl (cc 1, 512, .inr (.inl (fun _ => 0)))), (a8, .inr (2, [.null, .null, .null, .int 0, .int 0]))] A s.heap _ _ s := hW
  refine lv_dup hx hb dX3_init_63 rfl ?_
  refine q_IN (pre := [(h, .inr (3, [.ref a1, .ref a2, .ref a3, .ref a5, .ref a6, .null, .null, .null, .null, .int 0, .int 0, .int 0, .int 0])), (a1, .inr (10, [.int 0, .int 0, .int 0, .int 0])), (a2, .inr (1, [.int 0, .int 0, .int 0, .int 0, .int 0])), (a3, .inr (9, [.ref a4, .int 0, .long 0])), (a4, .inl (cc 0, 4, .inl (fun _ => 0))), (a5, .inr (6, [.long 0, .int 0, .int 0])), (a6, .inr (5, [.ref a7, .int 0])), (a7, .inl (cc 1, 512, .inr (.inl (fun _ => 0))))]) hC hO hW (n_X2_init l D cc a8) iX3_48 ⟨Nat.le_of_ble_eq_true rfl, Nat.le_of_ble_eq_true rfl⟩ hl.1 rfl (Nat.le_of_ble_eq_true rfl) ⟨Nat.le_of_ble_eq_true rfl, Nat.le_of_ble_eq_true rfl⟩ dX3_init_64 (fun w2 H locs hR hW => ?_)
  obtain ⟨a9, a10, a11, rfl⟩ := hR
  have hW : Wd D cc [(h, .inr (3, [.ref a1, .ref a2, .ref a3, .ref a5, .ref a6, .null, .null, .null, .null, .int 0, .int 0, .int 0, .int 0])), (a1, .inr (10, [.int 0, .int 0, .int 0, .int 0])), (a2, .inr (1, [.int 0, .int 0, .int 0, .int 0, .int 0])), (a3, .inr (9, [.ref a4, .int 0, .long 0])), (a4, .inl (cc 0, 4, .inl (fun _ => 0))), (a5, .inr (6, [.long 0, .int 0, .int 0])), (a6, .inr (5, [.ref a7, .int 0])), (a7, .inl (cc 1, 512, .inr (.inl (fun _ => 0)))), (a8, .inr (2, [.ref a9, .ref a10, .ref a11, .int 0, .int 0])), (a9, .inl (cc 0, 30, .inl (fun _ => 0))), (a10, .inl (cc 0, 30, .inl (fun _ => 0))), (a11, .inl (cc 0, 30, .inl (fun _ => 0)))] A s.heap _ _ s := hW
  refine q_putF hC hin hW jX3_49 0 rfl (w2 := [(h, .inr (3, [.ref a1, .ref a2, .ref a3, .ref a5, .ref a6, .ref a8, .null, .null, .null, .int 0, .int 0, .int 0, .int 0])), (a1, .inr (10, [.int 0, .int 0, .int 0, .int 0])), (a2, .inr (1, [.int 0, .int 0, .int 0, .int 0, .int 0])), (a3, .inr (9, [.ref a4, .int 0, .long 0])), (a4, .inl (cc 0, 4, .inl (fun _ => 0))), (a5, .inr (6, [.long 0, .int 0, .int 0])), (a6, .inr (5, [.ref a7, .int 0])), (a7, .inl (cc 1, 512, .inr (.inl (fun _ => 0)))), (a8, .inr (2, [.ref a9, .ref a10, .ref a11, .int 0, .int 0])), (a9, .inl (cc 0, 30, .inl (fun _ => 0))), (a10, .inl (cc 0, 30, .inl (fun _ => 0))), (a11, .inl (cc 0, 30, .inl (fun _ => 0)))]) rfl rfl rfl (Nat.le_of_ble_eq_true rfl) dX3_init_67 (fun H locs hW => ?_)
  refine lv_aload_n hx hb dX3_init_70 rfl (lv_at hl 0 rfl) ?_
  refine lv_bipush (v := 6) hx hb dX3_init_71 (by decide) ?_
  refine q_newq hC hW (cB := cc 3) 3 rfl qX3_53 hO.2 6 rfl (by decide) ⟨Nat.le_of_ble_eq_true rfl, Nat.le_of_ble_eq_true rfl⟩ dX3_init_73 (fun a12 H hW => ?_)
  have hW : Wd D cc [(h, .inr (3, [.ref a1, .ref a2, .ref a3, .ref a5, .ref a6, .ref a8, .null, .null, .null, .int 0, .int 0, .int 0, .int 0])), (a1, .inr (10, [.int 0, .int 0, .int 0, .int 0])), (a2, .inr (1, [.int 0, .int 0, .int 0, .int 0, .int 0])), (a3, .inr (9, [.ref a4, .int 0, .long 0])), (a4, .inl (cc 0, 4, .inl (fun _ => 0))), (a5, .inr (6, [.long 0, .int 0, .int 0])), (a6, .inr (5, [.ref a7, .int 0])), (a7, .inl (cc 1, 512, .inr (.inl (fun _ => 0)))), (a8, .inr (2, [.ref a9, .ref a10, .ref a11, .int 0, .int 0])), (a9, .inl (cc 0, 30, .inl (fun _ => 0))), (a10, .inl (cc 0, 30, .inl (fun _ => 0))), (a11, .inl (cc 0, 30, .inl (fun _ => 0))), (a12, .inl (cc 3, 6, .inr (.inr (.inr (.inr (fun _ => none))))))] A s.heap _ _ s := hW
  refine q_putF hC hin hW jX3_55 0 rfl (w2 := [(h, .inr (3, [.ref a1, .ref a2, .ref a3, .ref a5, .ref a6, .ref a8, .ref a12, .null, .null, .int 0, .int 0, .int 0, .int 0])), (a1, .inr (10, [.int 0, .int 0, .int 0, .int 0])), (a2, .inr (1, [.int 0, .int 0, .int 0, .int 0, .int 0])), (a3, .inr (9, [.ref a4, .int 0, .long 0])), (a4, .inl (cc 0, 4, .inl (fun _ => 0))), (a5, .inr (6, [.long 0, .int 0, .int 0])), (a6, .inr (5, [.ref a7, .int 0])), (a7, .inl (cc 1, 512, .inr (.inl (fun _ => 0)))), (a8, .inr (2, [.ref a9, .ref a10, .ref a11, .int 0, .int 0])), (a9, .inl (cc 0, 30, .inl (fun _ => 0))), (a10, .inl (cc 0, 30, .inl (fun _ => 0))), (a11, .inl (cc 0, 30, .inl (fun _ => 0))), (a12, .inl (cc 3, 6, .inr (.inr (.inr (.inr (fun _ => none))))))]) rfl rfl rfl (Nat.le_of_ble_eq_true rfl) dX3_init_76 (fun H locs hW => ?_)
  refine lv_aload_n hx hb dX3_init_79 rfl (lv_at hl 0 rfl) ?_
  refine lv_bipush (v := 7) hx hb dX3_init_80 (by decide) ?_
  refine q_newq hC hW (cB := cc 2) 2 rfl qX3_59 hO.1 7 rfl (by decide) ⟨Nat.le_of_ble_eq_true rfl, Nat.le_of_ble_eq_true rfl⟩ dX3_init_82 (fun a13 H hW => ?_)
  have hW : Wd D cc [(h, .inr (3, [.ref a1, .ref a2, .ref a3, .ref a5, .ref a6, .ref a8, .ref a12, .null, .null, .int 0, .int 0, .int 0, .int 0])), (a1, .inr (10, [.int 0, .int 0, .int 0, .int 0])), (a2, .inr (1, [.int 0, .int 0, .int 0, .int 0, .int 0])), (a3, .inr (9, [.ref a4, .int 0, .long 0])), (a4, .inl (cc 0, 4, .inl (fun _ => 0))), (a5, .inr (6, [.long 0, .int 0, .int 0])), (a6, .inr (5, [.ref a7, .int 0])), (a7, .inl (cc 1, 512, .inr (.inl (fun _ => 0)))), (a8, .inr (2, [.ref a9, .ref a10, .ref a11, .int 0, .int 0])), (a9, .inl (cc 0, 30, .inl (fun _ => 0))), (a10, .inl (cc 0, 30, .inl (fun _ => 0))), (a11, .inl (cc 0, 30, .inl (fun _ => 0))), (a12, .inl (cc 3, 6, .inr (.inr (.inr (.inr (fun _ => none)))))), (a13, .inl (cc 2, 7, .inr (.inr (.inr (.inr (fun _ => none))))))] A s.heap _ _ s := hW
  refine q_putF hC hin hW jX3_61 0 rfl (w2 := [(h, .inr (3, [.ref a1, .ref a2, .ref a3, .ref a5, .ref a6, .ref a8, .ref a12, .ref a13, .null, .int 0, .int 0, .int 0, .int 0])), (a1, .inr (10, [.int 0, .int 0, .int 0, .int 0])), (a2, .inr (1, [.int 0, .int 0, .int 0, .int 0, .int 0])), (a3, .inr (9, [.ref a4, .int 0, .long 0])), (a4, .inl (cc 0, 4, .inl (fun _ => 0))), (a5, .inr (6, [.long 0, .int 0, .int 0])), (a6, .inr (5, [.ref a7, .int 0])), (a7, .inl (cc 1, 512, .inr (.inl (fun _ => 0)))), (a8, .inr (2, [.ref a9, .ref a10, .ref a11, .int 0, .int 0])), (a9, .inl (cc 0, 30, .inl (fun _ => 0))), (a10, .inl (cc 0, 30, .inl (fun _ => 0))), (a11, .inl (cc 0, 30, .inl (fun _ => 0))), (a12, .inl (cc 3, 6, .inr (.inr (.inr (.inr (fun _ => none)))))), (a13, .inl (cc 2, 7, .inr (.inr (.inr (.inr (fun _ => none))))))]) rfl rfl rfl (Nat.le_of_ble_eq_true rfl) dX3_init_85 (fun H locs hW => ?_)
  refine lv_aload_n hx hb dX3_init_88 rfl (lv_at hl 0 rfl) ?_
  refine lv_bipush (v := 7) hx hb dX3_init_89 (by decide) ?_
  refine q_newl hC hW 7 rfl (by decide) (GW_of (i := 135) (by decide +kernel) rfl) ⟨Nat.le_of_ble_eq_true rfl, Nat.le_of_ble_eq_true rfl⟩ dX3_init_91 (fun a14 H hW => ?_)
  have hW : Wd D cc [(h, .inr (3, [.ref a1, .ref a2, .ref a3, .ref a5, .ref a6, .ref a8, .ref a12, .ref a13, .null, .int 0, .int 0, .int 0, .int 0])), (a1, .inr (10, [.int 0, .int 0, .int 0, .int 0])), (a2, .inr (1, [.int 0, .int 0, .int 0, .int 0, .int 0])), (a3, .inr (9, [.ref a4, .int 0, .long 0])), (a4, .inl (cc 0, 4, .inl (fun _ => 0))), (a5, .inr (6, [.long 0, .int 0, .int 0])), (a6, .inr (5, [.ref a7, .int 0])), (a7, .inl (cc 1, 512, .inr (.inl (fun _ => 0)))), (a8, .inr (2, [.ref a9, .ref a10, .ref a11, .int 0, .int 0])), (a9, .inl (cc 0, 30, .inl (fun _ => 0))), (a10, .inl (cc 0, 30, .inl (fun _ => 0))), (a11, .inl (cc 0, 30, .inl (fun _ => 0))), (a12, .inl (cc 3, 6, .inr (.inr (.inr (.inr (fun _ => none)))))), (a13, .inl (cc 2, 7, .inr (.inr (.inr (.inr (fun _ => none)))))), (a14, .inl (cc 1, 7, .inr (.inl (fun _ => 0))))] A s.heap _ _ s := hW
  refine q_putF hC hin hW jX3_65 0 rfl (w2 := [(h, .inr (3, [.ref a1, .ref a2, .ref a3, .ref a5, .ref a6, .ref a8, .ref a12, .ref a13, .ref a14, .int 0, .int 0, .int 0, .int 0])), (a1, .inr (10, [.int 0, .int 0, .int 0, .int 0])), (a2, .inr (1, [.int 0, .int 0, .int 0, .int 0, .int 0])), (a3, .inr (9, [.ref a4, .int 0, .long 0])), (a4, .inl (cc 0, 4, .inl (fun _ => 0))), (a5, .inr (6, [.long 0, .int 0, .int 0])), (a6, .inr (5, [.ref a7, .int 0])), (a7, .inl (cc 1, 512, .inr (.inl (fun _ => 0)))), (a8, .inr (2, [.ref a9, .ref a10, .ref a11, .int 0, .int 0])), (a9, .inl (cc 0, 30, .inl (fun _ => 0))), (a10, .inl (cc 0, 30, .inl (fun _ => 0))), (a11, .inl (cc 0, 30, .inl (fun _ => 0))), (a12, .inl (cc 3, 6, .inr (.inr (.inr (.inr (fun _ => none)))))), (a13, .inl (cc 2, 7, .inr (.inr (.inr (.inr (fun _ => none)))))), (a14, .inl (cc 1, 7, .inr (.inl (fun _ => 0))))]) rfl rfl rfl (Nat.le_of_ble_eq_true rfl) dX3_init_93 (fun H locs hW => ?_)
  obtain ⟨al, hal⟩ : ∃ al : Nat → Nat, al = (fun k => [h, a1, a2, a3, a4, a5, a6, a7, a8, a9, a10, a11, a12, a13, a14].getD k 0) := ⟨_, rfl⟩
  have hW : Wd D cc (B15 cc al (fun _ => none) (fun _ => none) ++ []) A s.heap H locs s := by
    rw [hal]
    exact hW
  have h0 : al 0 = h := by rw [hal]; rfl
  refine lv_iconst (v := 0) hx hb dX3_init_96 (by decide) ?_
  refine lv_istore_n (lv' := [(1, .int (nI 0)), (0, .ref (al 0))]) hx hb dX3_init_97 rfl hl (by decide) (by rw [h0]; rfl) (fun ls hl => ?_)
  refine ln_span hC hO al _ _ _ 0 (by decide) ⟨Nat.le_of_ble_eq_true rfl, Nat.le_of_ble_eq_true rfl⟩ ⟨Nat.le_of_ble_eq_true rfl, Nat.le_of_ble_eq_true rfl⟩ hW hl (fun s0 d0 c0 H locs ls hW hl => ?_)
  refine ln_span hC hO al _ _ _ 1 (by decide) ⟨Nat.le_of_ble_eq_true rfl, Nat.le_of_ble_eq_true rfl⟩ ⟨Nat.le_of_ble_eq_true rfl, Nat.le_of_ble_eq_true rfl⟩ hW hl (fun s1 d1 c1 H locs ls hW hl => ?_)
  refine ln_span hC hO al _ _ _ 2 (by decide) ⟨Nat.le_of_ble_eq_true rfl, Nat.le_of_ble_eq_true rfl⟩ ⟨Nat.le_of_ble_eq_true rfl, Nat.le_of_ble_eq_true rfl⟩ hW hl (fun s2 d2 c2 H locs ls hW hl => ?_)
  refine ln_span hC hO al _ _ _ 3 (by decide) ⟨Nat.le_of_ble_eq_true rfl, Nat.le_of_ble_eq_true rfl⟩ ⟨Nat.le_of_ble_eq_true rfl, Nat.le_of_ble_eq_true rfl⟩ hW hl (fun s3 d3 c3 H locs ls hW hl => ?_)
  refine ln_span hC hO al _ _ _ 4 (by decide) ⟨Nat.le_of_ble_eq_true rfl, Nat.le_of_ble_eq_true rfl⟩ ⟨Nat.le_of_ble_eq_true rfl, Nat.le_of_ble_eq_true rfl⟩ hW hl (fun s4 d4 c4 H locs ls hW hl => ?_)
  refine ln_span hC hO al _ _ _ 5 (by decide) ⟨Nat.le_of_ble_eq_true rfl, Nat.le_of_ble_eq_true rfl⟩ ⟨Nat.le_of_ble_eq_true rfl, Nat.le_of_ble_eq_true rfl⟩ hW hl (fun s5 d5 c5 H locs ls hW hl => ?_)
  refine lv_iload_n hx hb dX3_init_98 rfl (lv_at hl 0 rfl) ?_
  refine lv_aload_n hx hb dX3_init_99 rfl (lv_at hl 1 rfl) ?_
  refine q_get hC hW kX3_55 0 rfl (v := .ref (al 12)) rfl dX3_init_100 ?_
  refine q_alen hC hW 12 3 rfl rfl (v := nI 6) rfl dX3_init_103 ?_
  refine q_icmp_ge_n (tgt := 126) hx hb (a := 6) (b := 6) rfl rfl (by omega) (by omega) dX3_init_104 (by decide) (fun c_ => ?_) (fun c_ => by exfalso; omega)
  refine lv_iconst (v := 0) hx hb dX3_init_126 (by decide) ?_
  refine lv_istore_n (lv' := [(1, .int (nI 0)), (0, .ref (al 0))]) hx hb dX3_init_127 rfl hl (by decide) rfl (fun ls hl => ?_)
  refine ln_roll hC hO al _ _ _ 0 (by decide) ⟨Nat.le_of_ble_eq_true rfl, Nat.le_of_ble_eq_true rfl⟩ ⟨Nat.le_of_ble_eq_true rfl, Nat.le_of_ble_eq_true rfl⟩ hW hl (fun r0 H locs ls hW hl => ?_)
  refine ln_roll hC hO al _ _ _ 1 (by decide) ⟨Nat.le_of_ble_eq_true rfl, Nat.le_of_ble_eq_true rfl⟩ ⟨Nat.le_of_ble_eq_true rfl, Nat.le_of_ble_eq_true rfl⟩ hW hl (fun r1 H locs ls hW hl => ?_)
  refine ln_roll hC hO al _ _ _ 2 (by decide) ⟨Nat.le_of_ble_eq_true rfl, Nat.le_of_ble_eq_true rfl⟩ ⟨Nat.le_of_ble_eq_true rfl, Nat.le_of_ble_eq_true rfl⟩ hW hl (fun r2 H locs ls hW hl => ?_)
  refine ln_roll hC hO al _ _ _ 3 (by decide) ⟨Nat.le_of_ble_eq_true rfl, Nat.le_of_ble_eq_true rfl⟩ ⟨Nat.le_of_ble_eq_true rfl, Nat.le_of_ble_eq_true rfl⟩ hW hl (fun r3 H locs ls hW hl => ?_)
  refine ln_roll hC hO al _ _ _ 4 (by decide) ⟨Nat.le_of_ble_eq_true rfl, Nat.le_of_ble_eq_true rfl⟩ ⟨Nat.le_of_ble_eq_true rfl, Nat.le_of_ble_eq_true rfl⟩ hW hl (fun r4 H locs ls hW hl => ?_)
  refine ln_roll hC hO al _ _ _ 5 (by decide) ⟨Nat.le_of_ble_eq_true rfl, Nat.le_of_ble_eq_true rfl⟩ ⟨Nat.le_of_ble_eq_true rfl, Nat.le_of_ble_eq_true rfl⟩ hW hl (fun r5 H locs ls hW hl => ?_)
  refine ln_roll hC hO al _ _ _ 6 (by decide) ⟨Nat.le_of_ble_eq_true rfl, Nat.le_of_ble_eq_true rfl⟩ ⟨Nat.le_of_ble_eq_true rfl, Nat.le_of_ble_eq_true rfl⟩ hW hl (fun r6 H locs ls hW hl => ?_)
  refine lv_iload_n hx hb dX3_init_128 rfl (lv_at hl 0 rfl) ?_
  refine lv_aload_n hx hb dX3_init_129 rfl (lv_at hl 1 rfl) ?_
  refine q_get hC hW kX3_61 0 rfl (v := .ref (al 13)) rfl dX3_init_130 ?_
  refine q_alen hC hW 13 2 rfl rfl (v := nI 7) rfl dX3_init_133 ?_
  refine q_icmp_ge_n (tgt := 156) hx hb (a := 7) (b := 7) rfl rfl (by omega) (by omega) dX3_init_134 (by decide) (fun c_ => ?_) (fun c_ => by exfalso; omega)
  refine lv_aload_n hx hb dX3_init_156 rfl (lv_at hl 1 rfl) ?_
  subst hal
  have hW := lay_line (ad := (fun k => [h, a1, a2, a3, a4, a5, a6, a7, a8, a9, a10, a11, a12, a13, a14, s0, s1, s2, s3, s4, s5, d0, d1, d2, d3, d4, d5, c0, c1, c2, c3, c4, c5, r0, r1, r2, r3, r4, r5, r6].getD k 0)) hW (fun k h1 h2 => by
      have hc : k = 15 ∨ k = 16 ∨ k = 17 ∨ k = 18 ∨ k = 19 ∨ k = 20 ∨ k = 21 ∨ k = 22 ∨ k = 23 ∨ k = 24 ∨ k = 25 ∨ k = 26 ∨ k = 27 ∨ k = 28 ∨ k = 29 ∨ k = 30 ∨ k = 31 ∨ k = 32 ∨ k = 33 ∨ k = 34 ∨ k = 35 ∨ k = 36 ∨ k = 37 ∨ k = 38 ∨ k = 39 := by omega
      rcases hc with rfl | rfl | rfl | rfl | rfl | rfl | rfl | rfl | rfl | rfl | rfl | rfl | rfl | rfl | rfl | rfl | rfl | rfl | rfl | rfl | rfl | rfl | rfl | rfl | rfl <;> rfl) (fun i hi => by
      have hc : i = 0 ∨ i = 1 ∨ i = 2 ∨ i = 3 ∨ i = 4 ∨ i = 5 := by omega
      rcases hc with rfl | rfl | rfl | rfl | rfl | rfl <;> rfl) (fun i hi => by
      have hc : i = 0 ∨ i = 1 ∨ i = 2 ∨ i = 3 ∨ i = 4 ∨ i = 5 ∨ i = 6 := by omega
      rcases hc with rfl | rfl | rfl | rfl | rfl | rfl | rfl <;> rfl)
  generalize hadv : (fun k => [h, a1, a2, a3, a4, a5, a6, a7, a8, a9, a10, a11, a12, a13, a14, s0, s1, s2, s3, s4, s5, d0, d1, d2, d3, d4, d5, c0, c1, c2, c3, c4, c5, r0, r1, r2, r3, r4, r5, r6].getD k 0) = ad at hW
  have ha0 : ad 0 = h := by rw [← hadv]; rfl
  refine q_ldc hC (v := 1000000) (GW_of (i := 270) (by decide +kernel) rfl) dX3_init_157 ?_
  refine q_VV hC hW (c_X3_begin l D cc ad Zst 1000000) mX3_72 0 (Lg0 cc ad Zst) rfl ⟨Nat.le_of_ble_eq_true rfl, Nat.le_of_ble_eq_true rfl⟩ rfl hl.1 (by rw [ha0]; rfl) (Nat.le_of_ble_eq_true rfl) ⟨Nat.le_of_ble_eq_true rfl, Nat.le_of_ble_eq_true rfl⟩ dX3_init_159 (fun H locs hW => ?_)
  exact hend _ _ _ _ _ ⟨ad, ha0, rfl⟩ hW dX3_init_162
