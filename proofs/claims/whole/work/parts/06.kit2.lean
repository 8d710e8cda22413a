theorem w_acn : Cond.native arraycopyName ∈ GW := GW_of (i := 563) (by decide +kernel) rfl
theorem w_acs : Cond.static arraycopyName ∈ GW := GW_of (i := 562) (by decide +kernel) rfl
theorem w_aci : Cond.initialized "java/lang/System" ∈ GW := GW_of (i := 15) (by decide +kernel) rfl
theorem yX9_acopy_23 : Cond.methodLink RX9 23 arraycopyName ∈ GW := GW_of (i := 561) (by decide +kernel) rfl
theorem yX5_acopy_19 : Cond.methodLink RX5 19 arraycopyName ∈ GW := GW_of (i := 625) (by decide +kernel) rfl
/-! ===== numbers that are Nats, copies, reads of states ===== -/
theorem nq_add {x y : Int32} {a b : Nat} (hx : x = nI a) (hy : y = nI b) : x + y = nI (a + b) := by rw [hx, hy, nI_add]
theorem nq_mul {x y : Int32} {a b : Nat} (hx : x = nI a) (hy : y = nI b) : x * y = nI (a * b) := by rw [hx, hy, pk_mul]
theorem nq_sub {x y : Int32} {a b : Nat} (hx : x = nI a) (hy : y = nI b) (h : b ≤ a) : x - y = nI (a - b) := by rw [hx, hy, pk_sub h]
theorem nq_addL {x y : Int64} {a b : Nat} (hx : x = lN a) (hy : y = lN b) : x + y = lN (a + b) := by rw [hx, hy, lN_add]
theorem nq_subL {x y : Int64} {a b : Nat} (hx : x = lN a) (hy : y = lN b) (h : b ≤ a) : x - y = lN (a - b) := by rw [hx, hy, lN_sub h]
theorem nq_inc (a k : Nat) : nI a + Int32.ofInt (k : Int) = nI (a + k) := by
  rw [← nI_add]
  rfl
theorem rI_at (S : St) (a b : Nat) (v : Int32) : (sI S a b v).1 a b = v := by simp [sI, va_up]
theorem rJ_at (S : St) (a b : Nat) (v : Int64) : (sJ S a b v).2 a b = v := by simp [sJ, va_up]
theorem rI_ne (S : St) (a b : Nat) (v : Int32) (y : Nat) (h : ¬ y = b) : (sI S a b v).1 a y = S.1 a y := by simp [sI, va_up, h]
theorem rJ_ne (S : St) (a b : Nat) (v : Int64) (y : Nat) (h : ¬ y = b) : (sJ S a b v).2 a y = S.2 a y := by simp [sJ, va_up, h]
theorem sw_out {x : Int32} (n : Nat) (h : ∀ k, k < n → ¬ x = nI k) (hn : n < 1000 := by decide) : x.toInt < 0 ∨ ((n : Int) - 1) < x.toInt := by
  by_cases h0 : x.toInt < 0
  · exact Or.inl h0
  · right
    have h1 : ¬ x < 0 := fun q => h0 (by rw [Int32.lt_iff_toInt_lt] at q; exact q)
    obtain ⟨j, hj, rfl⟩ := nI_of h1
    rw [nI_toInt hj]
    by_cases hjn : j < n
    · exact absurd rfl (h j hjn)
    · omega
section Kit2
variable {p : Program} {l : Launch} {e : Env} {R : Room} {s : State} {m : MethodId} {args : Array Value} {below : List Frame} {meth : Method} {c : Code} {H : Heap} {locs : List Loc} {cells slots : Nat} {Q : State → Prop}
variable {b : ByteArray} {nL : Nat} {own : String} {pc : Nat} {ls : Array Slot} {rest : List Value} {D : va_G} {cc : Nat → ClassId} {A : Nat → Prop} {ws : va_W} {H0 : Heap} {a0 : Nat}
theorem q_ri {x v : Int32} (h : x = v) (kk : W p l e R s m args below meth c H locs cells slots Q (F0 m pc ls (.int v :: rest))) : W p l e R s m args below meth c H locs cells slots Q (F0 m pc ls (.int x :: rest)) := by
  subst h
  exact kk
theorem q_rl {x v : Int64} (h : x = v) (kk : W p l e R s m args below meth c H locs cells slots Q (F0 m pc ls (.long v :: rest))) : W p l e R s m args below meth c H locs cells slots Q (F0 m pc ls (.long x :: rest)) := by
  subst h
  exact kk
theorem q_icmp_lt_n {cc : ByteArray} (hx : p.tables.exec = Jvm.exec) (hb : c.code = cc) {x y : Int32} {a b : Nat} (e1 : x = nI a) (e2 : y = nI b) (ha : a < 2 ^ 31) (hb2 : b < 2 ^ 31) {off : Int} {tgt : Nat} (hdg : decode cc pc = .ok (.if_icmp .lt off, 3)) (ht : (pc : Int) + off = (tgt : Int)) (kt : a < b → W p l e R s m args below meth c H locs cells slots Q (F0 m tgt ls rest)) (kf : b ≤ a → W p l e R s m args below meth c H locs cells slots Q (F0 m (pc + 3) ls rest)) : W p l e R s m args below meth c H locs cells slots Q (F0 m pc ls (.int y :: .int x :: rest)) := by
  subst e1; subst e2
  exact lv_icmp_lt hx hb hdg ht (fun h => kt ((nI_ltI ha hb2).mp h)) (fun h => kf (Nat.le_of_not_lt (fun q => h ((nI_ltI ha hb2).mpr q))))
theorem q_if_lt_n {cc : ByteArray} (hx : p.tables.exec = Jvm.exec) (hb : c.code = cc) {x : Int32} {a : Nat} (e1 : x = nI a) (ha : a < 2 ^ 31) {off : Int} {tgt : Nat} (hdg : decode cc pc = .ok (.ifCond .lt off, 3)) (ht : (pc : Int) + off = (tgt : Int)) (kt : a < 0 → W p l e R s m args below meth c H locs cells slots Q (F0 m tgt ls rest)) (kf : 0 ≤ a → W p l e R s m args below meth c H locs cells slots Q (F0 m (pc + 3) ls rest)) : W p l e R s m args below meth c H locs cells slots Q (F0 m pc ls (.int x :: rest)) := by
  subst e1
  exact lv_if_lt hx hb hdg ht (fun h => kt ((nI_ltI ha (by decide : (0 : Nat) < 2 ^ 31)).mp h)) (fun h => kf (Nat.le_of_not_lt (fun q => h ((nI_ltI ha (by decide : (0 : Nat) < 2 ^ 31)).mpr q))))
theorem q_jlt_n (hC : Cx p m c b nL s args own) {x y : Int64} {a b2 : Nat} (e1 : x = lN a) (e2 : y = lN b2) (ha : a < 2 ^ 31) (hb2 : b2 < 2 ^ 31) {off : Int} {tgt : Nat} (hd1 : decode b pc = .ok (.lcmp, 1)) (hd2 : decode b (pc + 1) = .ok (.ifCond .lt off, 3)) (ht : ((pc + 1 : Nat) : Int) + off = (tgt : Int)) (kt : a < b2 → W p l e R s m args below meth c H locs cells slots Q (F0 m tgt ls rest)) (kf : b2 ≤ a → W p l e R s m args below meth c H locs cells slots Q (F0 m (pc + 4) ls rest)) : W p l e R s m args below meth c H locs cells slots Q (F0 m pc ls (.long y :: .long x :: rest)) := by
  subst e1; subst e2
  exact q_jlt hC hd1 hd2 ht (fun h => kt ((lN_lt ha hb2).mp h)) (fun h => kf (Nat.le_of_not_lt (fun q => h ((lN_lt ha hb2).mpr q))))
theorem q_icmp_ge_n {cc : ByteArray} (hx : p.tables.exec = Jvm.exec) (hb : c.code = cc) {x y : Int32} {a b : Nat} (e1 : x = nI a) (e2 : y = nI b) (ha : a < 2 ^ 31) (hb2 : b < 2 ^ 31) {off : Int} {tgt : Nat} (hdg : decode cc pc = .ok (.if_icmp .ge off, 3)) (ht : (pc : Int) + off = (tgt : Int)) (kt : b ≤ a → W p l e R s m args below meth c H locs cells slots Q (F0 m tgt ls rest)) (kf : a < b → W p l e R s m args below meth c H locs cells slots Q (F0 m (pc + 3) ls rest)) : W p l e R s m args below meth c H locs cells slots Q (F0 m pc ls (.int y :: .int x :: rest)) := by
  subst e1; subst e2
  exact lv_icmp_ge hx hb hdg ht (fun h => kt ((nI_leI hb2 ha).mp h)) (fun h => kf (Nat.lt_of_not_le (fun q => h ((nI_leI hb2 ha).mpr q))))
theorem q_if_ge_n {cc : ByteArray} (hx : p.tables.exec = Jvm.exec) (hb : c.code = cc) {x : Int32} {a : Nat} (e1 : x = nI a) (ha : a < 2 ^ 31) {off : Int} {tgt : Nat} (hdg : decode cc pc = .ok (.ifCond .ge off, 3)) (ht : (pc : Int) + off = (tgt : Int)) (kt : 0 ≤ a → W p l e R s m args below meth c H locs cells slots Q (F0 m tgt ls rest)) (kf : a < 0 → W p l e R s m args below meth c H locs cells slots Q (F0 m (pc + 3) ls rest)) : W p l e R s m args below meth c H locs cells slots Q (F0 m pc ls (.int x :: rest)) := by
  subst e1
  exact lv_if_ge hx hb hdg ht (fun h => kt ((nI_leI (by decide : (0 : Nat) < 2 ^ 31) ha).mp h)) (fun h => kf (Nat.lt_of_not_le (fun q => h ((nI_leI (by decide : (0 : Nat) < 2 ^ 31) ha).mpr q))))
theorem q_jge_n (hC : Cx p m c b nL s args own) {x y : Int64} {a b2 : Nat} (e1 : x = lN a) (e2 : y = lN b2) (ha : a < 2 ^ 31) (hb2 : b2 < 2 ^ 31) {off : Int} {tgt : Nat} (hd1 : decode b pc = .ok (.lcmp, 1)) (hd2 : decode b (pc + 1) = .ok (.ifCond .ge off, 3)) (ht : ((pc + 1 : Nat) : Int) + off = (tgt : Int)) (kt : b2 ≤ a → W p l e R s m args below meth c H locs cells slots Q (F0 m tgt ls rest)) (kf : a < b2 → W p l e R s m args below meth c H locs cells slots Q (F0 m (pc + 4) ls rest)) : W p l e R s m args below meth c H locs cells slots Q (F0 m pc ls (.long y :: .long x :: rest)) := by
  subst e1; subst e2
  exact q_jge hC hd1 hd2 ht (fun h => kt ((lN_le hb2 ha).mp h)) (fun h => kf (Nat.lt_of_not_le (fun q => h ((lN_le hb2 ha).mpr q))))
theorem q_icmp_gt_n {cc : ByteArray} (hx : p.tables.exec = Jvm.exec) (hb : c.code = cc) {x y : Int32} {a b : Nat} (e1 : x = nI a) (e2 : y = nI b) (ha : a < 2 ^ 31) (hb2 : b < 2 ^ 31) {off : Int} {tgt : Nat} (hdg : decode cc pc = .ok (.if_icmp .gt off, 3)) (ht : (pc : Int) + off = (tgt : Int)) (kt : b < a → W p l e R s m args below meth c H locs cells slots Q (F0 m tgt ls rest)) (kf : a ≤ b → W p l e R s m args below meth c H locs cells slots Q (F0 m (pc + 3) ls rest)) : W p l e R s m args below meth c H locs cells slots Q (F0 m pc ls (.int y :: .int x :: rest)) := by
  subst e1; subst e2
  exact lv_icmp_gt hx hb hdg ht (fun h => kt ((nI_ltI hb2 ha).mp h)) (fun h => kf (Nat.le_of_not_lt (fun q => h ((nI_ltI hb2 ha).mpr q))))
theorem q_if_gt_n {cc : ByteArray} (hx : p.tables.exec = Jvm.exec) (hb : c.code = cc) {x : Int32} {a : Nat} (e1 : x = nI a) (ha : a < 2 ^ 31) {off : Int} {tgt : Nat} (hdg : decode cc pc = .ok (.ifCond .gt off, 3)) (ht : (pc : Int) + off = (tgt : Int)) (kt : 0 < a → W p l e R s m args below meth c H locs cells slots Q (F0 m tgt ls rest)) (kf : a ≤ 0 → W p l e R s m args below meth c H locs cells slots Q (F0 m (pc + 3) ls rest)) : W p l e R s m args below meth c H locs cells slots Q (F0 m pc ls (.int x :: rest)) := by
  subst e1
  exact lv_if_gt hx hb hdg ht (fun h => kt ((nI_ltI (by decide : (0 : Nat) < 2 ^ 31) ha).mp h)) (fun h => kf (Nat.le_of_not_lt (fun q => h ((nI_ltI (by decide : (0 : Nat) < 2 ^ 31) ha).mpr q))))
theorem q_jgt_n (hC : Cx p m c b nL s args own) {x y : Int64} {a b2 : Nat} (e1 : x = lN a) (e2 : y = lN b2) (ha : a < 2 ^ 31) (hb2 : b2 < 2 ^ 31) {off : Int} {tgt : Nat} (hd1 : decode b pc = .ok (.lcmp, 1)) (hd2 : decode b (pc + 1) = .ok (.ifCond .gt off, 3)) (ht : ((pc + 1 : Nat) : Int) + off = (tgt : Int)) (kt : b2 < a → W p l e R s m args below meth c H locs cells slots Q (F0 m tgt ls rest)) (kf : a ≤ b2 → W p l e R s m args below meth c H locs cells slots Q (F0 m (pc + 4) ls rest)) : W p l e R s m args below meth c H locs cells slots Q (F0 m pc ls (.long y :: .long x :: rest)) := by
  subst e1; subst e2
  exact q_jgt hC hd1 hd2 ht (fun h => kt ((lN_lt hb2 ha).mp h)) (fun h => kf (Nat.le_of_not_lt (fun q => h ((lN_lt hb2 ha).mpr q))))
theorem q_icmp_le_n {cc : ByteArray} (hx : p.tables.exec = Jvm.exec) (hb : c.code = cc) {x y : Int32} {a b : Nat} (e1 : x = nI a) (e2 : y = nI b) (ha : a < 2 ^ 31) (hb2 : b < 2 ^ 31) {off : Int} {tgt : Nat} (hdg : decode cc pc = .ok (.if_icmp .le off, 3)) (ht : (pc : Int) + off = (tgt : Int)) (kt : a ≤ b → W p l e R s m args below meth c H locs cells slots Q (F0 m tgt ls rest)) (kf : b < a → W p l e R s m args below meth c H locs cells slots Q (F0 m (pc + 3) ls rest)) : W p l e R s m args below meth c H locs cells slots Q (F0 m pc ls (.int y :: .int x :: rest)) := by
  subst e1; subst e2
  exact lv_icmp_le hx hb hdg ht (fun h => kt ((nI_leI ha hb2).mp h)) (fun h => kf (Nat.lt_of_not_le (fun q => h ((nI_leI ha hb2).mpr q))))
theorem q_if_le_n {cc : ByteArray} (hx : p.tables.exec = Jvm.exec) (hb : c.code = cc) {x : Int32} {a : Nat} (e1 : x = nI a) (ha : a < 2 ^ 31) {off : Int} {tgt : Nat} (hdg : decode cc pc = .ok (.ifCond .le off, 3)) (ht : (pc : Int) + off = (tgt : Int)) (kt : a ≤ 0 → W p l e R s m args below meth c H locs cells slots Q (F0 m tgt ls rest)) (kf : 0 < a → W p l e R s m args below meth c H locs cells slots Q (F0 m (pc + 3) ls rest)) : W p l e R s m args below meth c H locs cells slots Q (F0 m pc ls (.int x :: rest)) := by
  subst e1
  exact lv_if_le hx hb hdg ht (fun h => kt ((nI_leI ha (by decide : (0 : Nat) < 2 ^ 31)).mp h)) (fun h => kf (Nat.lt_of_not_le (fun q => h ((nI_leI ha (by decide : (0 : Nat) < 2 ^ 31)).mpr q))))
theorem q_jle_n (hC : Cx p m c b nL s args own) {x y : Int64} {a b2 : Nat} (e1 : x = lN a) (e2 : y = lN b2) (ha : a < 2 ^ 31) (hb2 : b2 < 2 ^ 31) {off : Int} {tgt : Nat} (hd1 : decode b pc = .ok (.lcmp, 1)) (hd2 : decode b (pc + 1) = .ok (.ifCond .le off, 3)) (ht : ((pc + 1 : Nat) : Int) + off = (tgt : Int)) (kt : a ≤ b2 → W p l e R s m args below meth c H locs cells slots Q (F0 m tgt ls rest)) (kf : b2 < a → W p l e R s m args below meth c H locs cells slots Q (F0 m (pc + 4) ls rest)) : W p l e R s m args below meth c H locs cells slots Q (F0 m pc ls (.long y :: .long x :: rest)) := by
  subst e1; subst e2
  exact q_jle hC hd1 hd2 ht (fun h => kt ((lN_le ha hb2).mp h)) (fun h => kf (Nat.lt_of_not_le (fun q => h ((lN_le ha hb2).mpr q))))
theorem q_icmp_eq_n {cc : ByteArray} (hx : p.tables.exec = Jvm.exec) (hb : c.code = cc) {x y : Int32} {a b : Nat} (e1 : x = nI a) (e2 : y = nI b) (ha : a < 2 ^ 31) (hb2 : b < 2 ^ 31) {off : Int} {tgt : Nat} (hdg : decode cc pc = .ok (.if_icmp .eq off, 3)) (ht : (pc : Int) + off = (tgt : Int)) (kt : a = b → W p l e R s m args below meth c H locs cells slots Q (F0 m tgt ls rest)) (kf : ¬ a = b → W p l e R s m args below meth c H locs cells slots Q (F0 m (pc + 3) ls rest)) : W p l e R s m args below meth c H locs cells slots Q (F0 m pc ls (.int y :: .int x :: rest)) := by
  subst e1; subst e2
  exact lv_icmp_eq hx hb hdg ht (fun h => kt ((nI_eq ha hb2).mp h)) (fun h => kf (fun q => h ((nI_eq ha hb2).mpr q)))
theorem q_if_eq_n {cc : ByteArray} (hx : p.tables.exec = Jvm.exec) (hb : c.code = cc) {x : Int32} {a : Nat} (e1 : x = nI a) (ha : a < 2 ^ 31) {off : Int} {tgt : Nat} (hdg : decode cc pc = .ok (.ifCond .eq off, 3)) (ht : (pc : Int) + off = (tgt : Int)) (kt : a = 0 → W p l e R s m args below meth c H locs cells slots Q (F0 m tgt ls rest)) (kf : ¬ a = 0 → W p l e R s m args below meth c H locs cells slots Q (F0 m (pc + 3) ls rest)) : W p l e R s m args below meth c H locs cells slots Q (F0 m pc ls (.int x :: rest)) := by
  subst e1
  exact lv_if_eq hx hb hdg ht (fun h => kt ((nI_eq ha (by decide : (0 : Nat) < 2 ^ 31)).mp h)) (fun h => kf (fun q => h ((nI_eq ha (by decide : (0 : Nat) < 2 ^ 31)).mpr q)))
theorem q_jeq_n (hC : Cx p m c b nL s args own) {x y : Int64} {a b2 : Nat} (e1 : x = lN a) (e2 : y = lN b2) (ha : a < 2 ^ 31) (hb2 : b2 < 2 ^ 31) {off : Int} {tgt : Nat} (hd1 : decode b pc = .ok (.lcmp, 1)) (hd2 : decode b (pc + 1) = .ok (.ifCond .eq off, 3)) (ht : ((pc + 1 : Nat) : Int) + off = (tgt : Int)) (kt : a = b2 → W p l e R s m args below meth c H locs cells slots Q (F0 m tgt ls rest)) (kf : ¬ a = b2 → W p l e R s m args below meth c H locs cells slots Q (F0 m (pc + 4) ls rest)) : W p l e R s m args below meth c H locs cells slots Q (F0 m pc ls (.long y :: .long x :: rest)) := by
  subst e1; subst e2
  exact q_jeq hC hd1 hd2 ht (fun h => kt ((lN_eq ha hb2).mp h)) (fun h => kf (fun q => h ((lN_eq ha hb2).mpr q)))
theorem q_icmp_ne_n {cc : ByteArray} (hx : p.tables.exec = Jvm.exec) (hb : c.code = cc) {x y : Int32} {a b : Nat} (e1 : x = nI a) (e2 : y = nI b) (ha : a < 2 ^ 31) (hb2 : b < 2 ^ 31) {off : Int} {tgt : Nat} (hdg : decode cc pc = .ok (.if_icmp .ne off, 3)) (ht : (pc : Int) + off = (tgt : Int)) (kt : ¬ a = b → W p l e R s m args below meth c H locs cells slots Q (F0 m tgt ls rest)) (kf : a = b → W p l e R s m args below meth c H locs cells slots Q (F0 m (pc + 3) ls rest)) : W p l e R s m args below meth c H locs cells slots Q (F0 m pc ls (.int y :: .int x :: rest)) := by
  subst e1; subst e2
  exact lv_icmp_ne hx hb hdg ht (fun h => kt (fun q => h ((nI_eq ha hb2).mpr q))) (fun h => kf ((nI_eq ha hb2).mp h))
theorem q_if_ne_n {cc : ByteArray} (hx : p.tables.exec = Jvm.exec) (hb : c.code = cc) {x : Int32} {a : Nat} (e1 : x = nI a) (ha : a < 2 ^ 31) {off : Int} {tgt : Nat} (hdg : decode cc pc = .ok (.ifCond .ne off, 3)) (ht : (pc : Int) + off = (tgt : Int)) (kt : ¬ a = 0 → W p l e R s m args below meth c H locs cells slots Q (F0 m tgt ls rest)) (kf : a = 0 → W p l e R s m args below meth c H locs cells slots Q (F0 m (pc + 3) ls rest)) : W p l e R s m args below meth c H locs cells slots Q (F0 m pc ls (.int x :: rest)) := by
  subst e1
  exact lv_if_ne hx hb hdg ht (fun h => kt (fun q => h ((nI_eq ha (by decide : (0 : Nat) < 2 ^ 31)).mpr q))) (fun h => kf ((nI_eq ha (by decide : (0 : Nat) < 2 ^ 31)).mp h))
theorem q_jne_n (hC : Cx p m c b nL s args own) {x y : Int64} {a b2 : Nat} (e1 : x = lN a) (e2 : y = lN b2) (ha : a < 2 ^ 31) (hb2 : b2 < 2 ^ 31) {off : Int} {tgt : Nat} (hd1 : decode b pc = .ok (.lcmp, 1)) (hd2 : decode b (pc + 1) = .ok (.ifCond .ne off, 3)) (ht : ((pc + 1 : Nat) : Int) + off = (tgt : Int)) (kt : ¬ a = b2 → W p l e R s m args below meth c H locs cells slots Q (F0 m tgt ls rest)) (kf : a = b2 → W p l e R s m args below meth c H locs cells slots Q (F0 m (pc + 4) ls rest)) : W p l e R s m args below meth c H locs cells slots Q (F0 m pc ls (.long y :: .long x :: rest)) := by
  subst e1; subst e2
  exact q_jne hC hd1 hd2 ht (fun h => kt (fun q => h ((lN_eq ha hb2).mpr q))) (fun h => kf ((lN_eq ha hb2).mp h))
/-- arraycopy between two cells of the world -/
theorem q_copyI (hC : Cx p m c b nL s args own) (hW : Wd D cc ws A H0 H locs s) {idx : Nat} (hl : Cond.methodLink own idx arraycopyName ∈ GW) (q0 q1 : Nat) {a1 n0 n1 : Nat} {f g : Nat → Int32} (he0 : ws[q0]? = some (a0, .inl (cc 0, n0, .inl f))) (he1 : ws[q1]? = some (a1, .inl (cc 0, n1, .inl g))) {i j k : Int32} (sp dp n : Nat) (hi : i = nI sp) (hj : j = nI dp) (hk : k = nI n) (b1 : sp < 2 ^ 31) (b2 : dp < 2 ^ 31) (b3 : n < 2 ^ 31) (h4 : sp + n ≤ n0) (h5 : dp + n ≤ n1) {w2 : va_W} (hset : ws.set q1 (a1, .inl (cc 0, n1, .inl (va_cpy f g sp dp n))) = w2) (hsz : ls.size = nL)
    (hfr : 1 ≤ R.frames ∧ (nativeFrameWords "java/lang/System" "arraycopy" 5 + 11) + 8 ≤ R.locals) (hw : (rest.map fun v => v.category).sum ≤ 8) (hdg : decode b pc = .ok (.invokestatic idx, 3))
    (kk : ∀ (H1 : Heap) (locs1 : List Loc), Wd D cc w2 A H0 H1 locs1 s → W p l e R s m args below meth c H1 locs1 cells slots Q (F0 m (pc + 3) ls rest)) : W p l e R s m args below meth c H locs cells slots Q (F0 m pc ls (.int k :: .int j :: .ref a1 :: .int i :: .ref a0 :: rest)) := by
  obtain ⟨⟨hx, hb, hml, hown, hts⟩, hN⟩ := hC
  obtain ⟨hP, hK, hD, hS, hA⟩ := hW
  subst hi; subst hj; subst hk
  refine va_copyi hx hb (hml.trans hsz.symm) hown (hts _ hl) (hts _ w_acn) (hts _ w_acs) (hts _ w_aci) hK hP hD hS q0 q1 0 0 (ty := .int) he0 he1 rfl rfl rfl (nI_pos b1) (nI_pos b2) (nI_pos b3) (by rw [nI_clamp b1, nI_clamp b3]; exact h4) (by rw [nI_clamp b2, nI_clamp b3]; exact h5) (fun _ _ => rfl) hfr.1 (by omega) hdg (fun H1 locs1 a1 a2 a3 => ?_)
  rw [nI_clamp b1, nI_clamp b2, nI_clamp b3, hset] at a1 a2
  exact kk H1 locs1 ⟨a1, hK, a2, a3, hA⟩
theorem q_copyL (hC : Cx p m c b nL s args own) (hW : Wd D cc ws A H0 H locs s) {idx : Nat} (hl : Cond.methodLink own idx arraycopyName ∈ GW) (q0 q1 : Nat) {a1 n0 n1 : Nat} {f g : Nat → Int64} (he0 : ws[q0]? = some (a0, .inl (cc 1, n0, .inr (.inl f)))) (he1 : ws[q1]? = some (a1, .inl (cc 1, n1, .inr (.inl g)))) {i j k : Int32} (sp dp n : Nat) (hi : i = nI sp) (hj : j = nI dp) (hk : k = nI n) (b1 : sp < 2 ^ 31) (b2 : dp < 2 ^ 31) (b3 : n < 2 ^ 31) (h4 : sp + n ≤ n0) (h5 : dp + n ≤ n1) {w2 : va_W} (hset : ws.set q1 (a1, .inl (cc 1, n1, .inr (.inl (va_cpy f g sp dp n)))) = w2) (hsz : ls.size = nL)
    (hfr : 1 ≤ R.frames ∧ (nativeFrameWords "java/lang/System" "arraycopy" 5 + 11) + 8 ≤ R.locals) (hw : (rest.map fun v => v.category).sum ≤ 8) (hdg : decode b pc = .ok (.invokestatic idx, 3))
    (kk : ∀ (H1 : Heap) (locs1 : List Loc), Wd D cc w2 A H0 H1 locs1 s → W p l e R s m args below meth c H1 locs1 cells slots Q (F0 m (pc + 3) ls rest)) : W p l e R s m args below meth c H locs cells slots Q (F0 m pc ls (.int k :: .int j :: .ref a1 :: .int i :: .ref a0 :: rest)) := by
  obtain ⟨⟨hx, hb, hml, hown, hts⟩, hN⟩ := hC
  obtain ⟨hP, hK, hD, hS, hA⟩ := hW
  subst hi; subst hj; subst hk
  refine va_copyl hx hb (hml.trans hsz.symm) hown (hts _ hl) (hts _ w_acn) (hts _ w_acs) (hts _ w_aci) hK hP hD hS q0 q1 1 1 (ty := .long) he0 he1 rfl rfl rfl (nI_pos b1) (nI_pos b2) (nI_pos b3) (by rw [nI_clamp b1, nI_clamp b3]; exact h4) (by rw [nI_clamp b2, nI_clamp b3]; exact h5) (fun _ _ => rfl) hfr.1 (by omega) hdg (fun H1 locs1 a1 a2 a3 => ?_)
  rw [nI_clamp b1, nI_clamp b2, nI_clamp b3, hset] at a1 a2
  exact kk H1 locs1 ⟨a1, hK, a2, a3, hA⟩
end Kit2
theorem ap_g1 {X Y : va_W} {k : Nat} {q : Nat × va_E} (h : X[k]? = some q) : (X ++ Y)[k]? = some q := by
  rw [List.getElem?_append_left (List.getElem?_eq_some_iff.mp h).1]
  exact h
theorem ap_g2 {X Y : va_W} {n k : Nat} {q : Nat × va_E} (hn : X.length = n) (h : Y[k]? = some q) : (X ++ Y)[n + k]? = some q := by
  rw [List.getElem?_append_right (by omega), hn, Nat.add_sub_cancel_left]
  exact h
theorem ap_s1 {X Y X' : va_W} {n k : Nat} {q : Nat × va_E} (hn : X.length = n) (hk : k < n) (h : X.set k q = X') : (X ++ Y).set k q = X' ++ Y := by
  rw [List.set_append_left _ _ (by omega), h]
theorem ap_s2 {X Y Y' : va_W} {n k : Nat} {q : Nat × va_E} (hn : X.length = n) (h : Y.set k q = Y') : (X ++ Y).set (n + k) q = X ++ Y' := by
  rw [List.set_append_right _ _ (by omega), hn, Nat.add_sub_cancel_left, h]
theorem LW_len (cc : Nat → ClassId) (ad : Nat → Nat) (S : St) : (LW cc ad S).length = 40 := by simp [LW]
theorem OL_len (q : Nat × va_E) (cc : Nat → ClassId) (ad : Nat → Nat) (S : St) : ([q] ++ LW cc ad S).length = 41 := by simp [LW]
theorem nx_xor2 (a b : Nat) : nI a ^^^ nI b = nI (a ^^^ b) := by
  apply Int32.toBitVec_inj.1
  show BitVec.ofNat 32 a ^^^ BitVec.ofNat 32 b = BitVec.ofNat 32 (a ^^^ b)
  apply BitVec.eq_of_getLsbD_eq
  intro i hi
  simp [hi]
