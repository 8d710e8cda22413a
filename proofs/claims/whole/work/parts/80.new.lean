/-! ===== constructors: what they are said in, their rows ===== -/
def AO (U : State) : Prop := va_AO RX7 U ∧ va_AO RX8 U
theorem AO.moved {u U : State} (hvm : u.vm.Alike U.vm) (h : AO u) : AO U := ⟨va_AO.moved hvm h.1, va_AO.moved hvm h.2⟩
def rmC (d mc ms : Nat) : Room := { frames := d, cells := mc, slots := ms, locals := 36 * d }
def PreN (D : va_G) (cc : Nat → ClassId) (ws : va_W) (sz : Nat) (U : State) : Prop := PreB D cc ws sz U ∧ AO U
theorem preN_blind {D : va_G} {cc : Nat → ClassId} {ws : va_W} {sz : Nat} {av : List Value} : FrameBlind (va_Pc av (PreN D cc ws sz)) := by
  intro a U g mk h
  obtain ⟨h0, ⟨h1, h2, h3, h4, h5⟩, h6⟩ := h
  exact ⟨h0, ⟨h1, h2, va_K.moved (u := U) (U := U.calling g mk a) (Vm.Alike.refl U.vm) h3, h4, NW.same (u := U) (U := U.calling g mk a) rfl h5⟩, AO.moved (u := U) (U := U.calling g mk a) (Vm.Alike.refl U.vm) h6⟩
/-- a constructor: from the world ws it comes to one of R's worlds; mc cells of ms slots are new -/
def CtN (l : Launch) (D : va_G) (cc : Nat → ClassId) (y : MethodName) (b : ByteArray) (L : Nat) (d mc ms : Nat) (av : List Value) (ws : va_W) (R : va_W → Prop) : Prop :=
  ∀ sz : Nat, Met l y (wds y b L none) (rmC d mc ms) (va_Pc av (PreN D cc ws sz)) (va_Qv (fun (w2 : va_W) => R w2) (fun (w2 : va_W) => PostB D cc ws w2 sz ()) (va_A ws sz)) mc ms (va_A ws sz)
section KitN
variable {l : Launch} {D : va_G} {cc : Nat → ClassId} {y : MethodName} {b : ByteArray} {L d mc ms : Nat} {av : List Value} {ws : va_W} {R : va_W → Prop}
set_option maxHeartbeats 1000000 in
theorem CtN.of (hy : plainFor y = true) (hnm : y.name = "<init>") (hargs : (lg_sl av).length ≤ L)
    (body : ∀ (p : Program) (e : Env) (s : State) (m : MethodId) (args : Array Value) (below : List Frame) (meth : Method) (c : Code) (A : Nat → Prop) (Q : State → Prop), Cx p m c b L s args y.cls → AO s → meth.name = "<init>" → Wd D cc ws A s.heap s.heap [] s →
      (∀ (H : Heap) (locs : List Loc) (pc : Nat) (ls : Array Slot) (wx : va_W), R wx → Wd D cc wx A s.heap H locs s → decode b pc = .ok (.return_, 1) → W p l e (rmC d mc ms) s m args below meth c H locs mc ms Q (F0 m pc ls [])) →
      ∀ ls : Array Slot, lv_has ls L (lv_args 0 av) → W p l e (rmC d mc ms) s m args below meth c s.heap [] 0 0 Q (F0 m 0 ls [])) :
    CtN l D cc y b L d mc ms av ws R := by
  intro sz
  refine w_metF (cc := b) (maxL := L) (ret := none) hy rfl ?_
  intro p e s m args below meth c s₁ B hml hv
  obtain ⟨rfl, ⟨hsz, hP, hK, hD0, hN⟩, hO⟩ := hv
  have hx := B.exec
  have hb := B.bytes
  have hr := B.returns
  have hts := atoms_spec (ws := wds y b L none) B.pre
  have hown : s.vm.findClass y.cls = some m.cls := findClass_of_methodNamed B.named
  have hlocks := B.notSynchronized
  have hin : meth.name = "<init>" := (name_of_methodNamed B.named B.method).1.trans hnm
  subst hsz
  have hD := hD0.self (sz := s.heap.size)
  generalize hAe : va_A ws s.heap.size = A at hD ⊢
  have hA : ∀ q : Nat, s.heap.size ≤ q → A q := fun q h => by rw [← hAe]; exact Or.inr h
  have hS : va_S A s.heap s.heap [] := va_S.rf
  have hl := lv_entry av (n := L) hargs
  rw [lg_entry_eq]
  generalize (lg_sl av ++ List.replicate (L - (lg_sl av).length) Slot.unset).toArray = ls at hl ⊢
  refine body p e s m _ below meth c A _ ⟨⟨hx, hb, hml, hown, fun w hw => hts w (List.mem_cons_of_mem _ hw)⟩, hN⟩ hO hin ⟨hP, hK, hD, hS, hA⟩ ?_ ls hl
  intro H locs pc ls wx hR hW hdg
  obtain ⟨hP, hK, hD, hS, -⟩ := hW
  exact W.vret hx hb hr (fun t ht hW => ⟨⟨wx, rfl, hR, by rw [ht]; exact hP, va_K.moved hW.alike hK, by rw [hAe]; exact hD⟩, hS.F ht⟩) hS.2.2 hdg
theorem CtN.lift (h : CtN l D cc y b L d mc ms av ws R) (X : va_W) : CtN l D cc y b L d mc ms av (X ++ ws) (fun w => ∃ w2, w = X ++ w2 ∧ R w2) := by
  intro sz p e ha hc hk s m args below hf happ hP hK
  have hP1 : PreB D cc (X ++ ws ++ []) sz s := by rw [List.append_nil]; exact hP.2.1
  obtain ⟨n, o, h1, h2, h3, ⟨⟨w2, ho, hr, hB⟩, hF⟩, LL, hE, hfree⟩ := h sz p e ha hc hk s m args below hf happ ⟨hP.1, fr_pre hP1, hP.2.2⟩ hK
  obtain ⟨q1, q2⟩ := fr_post (u := ()) hP1 hB hF
  rw [List.append_nil, List.append_nil] at q1
  rw [List.append_nil] at q2
  exact ⟨n, o, h1, h2, h3, ⟨⟨X ++ w2, ho, ⟨w2, rfl, hr⟩, q1⟩, q2⟩, LL, hE, fun q hq => by have z := vA_sub (X := X) (Y := []) (hfree q hq); rw [List.append_nil] at z; exact z⟩
end KitN
def MthI (own : String) (idx : Nat) (y : MethodName) (b : ByteArray) (L : Nat) : Prop :=
  Cond.code y b L none ∈ GW ∧ Cond.instanceMethod y ∈ GW ∧ Cond.initialized y.cls ∈ GW ∧ y.name = "<init>" ∧ (y.cls ≠ "java/lang/invoke/MethodHandle" ∧ y.cls ≠ "java/lang/invoke/VarHandle" ∧ (parseMethodDescriptor y.desc).map (fun d => d.parameters.length) = some 0) ∧
    (Cond.methodLink own idx y ∈ GW ∨ ∃ host, Cond.methodLinkNest own idx y host ∈ nestWs)
def NewC (own : String) (idx ci : Nat) (fs : List Value) : Prop :=
  ∃ (C : String) (T : u_T) (N : Nat) (ty : Nat → FieldType), vwCl[ci]? = some (C, T, N) ∧ (∀ w ∈ u_ws C T N, w ∈ GW) ∧ (∀ k, k < N → parseFieldDescriptor (T k).2.2.1 = some (ty k)) ∧ Cond.classLink own idx C ∈ GW ∧ Cond.instantiable C N ∈ GW ∧ Cond.initialized C ∈ GW ∧ (∀ j, j < N → defaultValue (ty j) = vp_V fs j) ∧ fs.length = N
def FldF (ci k : Nat) (ty : FieldType) (own : String) (idx : Nat) : Prop :=
  ∃ (T : u_T) (N : Nat) (ty0 : Nat → FieldType), vwCl[ci]? = some (own, T, N) ∧ k < N ∧ (∀ w ∈ u_ws own T N, w ∈ GW) ∧ (∀ j, j < N → parseFieldDescriptor (T j).2.2.1 = some (ty0 j)) ∧ (∀ a, a < N → ∀ b, b < N → a ≠ b → (T a).2.1 ≠ (T b).2.1) ∧ (T k).1 = own ∧ ty0 k = ty ∧ (T k).2.2.2 = true ∧ Cond.fieldLink own idx own (T k).2.1 (T k).2.2.1 ∈ GW
theorem ra_one {U : State} {cA cB : ClassId} {ty : FieldType} (h1 : va_RA U cA ty) (h2 : va_RA U cB ty) : cA = cB := by
  cases ty with
  | object C =>
    obtain ⟨_, _, _, _, _, a⟩ := h1
    obtain ⟨_, _, _, _, _, b⟩ := h2
    exact Option.some.inj (a.symm.trans b)
  | _ => exact Option.some.inj (Eq.trans (Eq.symm h1) h2)
section KitM
variable {p : Program} {l : Launch} {e : Env} {R : Room} {s : State} {m : MethodId} {args : Array Value} {below : List Frame} {meth : Method} {c : Code} {H : Heap} {locs : List Loc} {cells slots : Nat} {Q : State → Prop}
variable {b : ByteArray} {nL : Nat} {own : String} {pc : Nat} {ls : Array Slot} {rest : List Value} {D : va_G} {cc : Nat → ClassId} {A : Nat → Prop} {ws : va_W} {H0 : Heap} {a : Nat}
variable {y : MethodName} {b2 : ByteArray} {L2 d2 mc ms idx : Nat} {st : List Value}
theorem q_preN (hC : Cx p m c b nL s args own) (hO : AO s) (hW : Wd D cc ws A H0 H locs s) {av : List Value} : ∀ U : State, U.heap = H → s.WarmedH U.vm → va_Pc av (PreN D cc ws H.size) av.toArray U := by
  intro U hU hw
  have h := q_pre hC hW (av := av) U hU hw
  exact ⟨h.1, h.2, hO.moved hw.alike⟩
theorem q_runI (hC : Cx p m c b nL s args own) (hO : AO s) (hW : Wd D cc ws A H0 H locs s) {Qc : Array Value → State → Outcome → State → Prop} (hM : Met l y (wds y b2 L2 none) (rmC d2 mc ms) (va_Pc [.ref a] (PreN D cc ws H.size)) Qc mc ms (va_A ws H.size)) (hm : MthI own idx y b2 L2) (hR : d2 + 1 ≤ R.frames ∧ 8 + (L2 + 11) + 36 * d2 ≤ R.locals)
    (hsz : ls.size = nL) (hst : st = .ref a :: rest) (hw : (rest.map fun v => v.category).sum ≤ 8) (hcs : cells + mc ≤ R.cells ∧ slots + ms ≤ R.slots) (hdg : decode b pc = .ok (.invokespecial idx, 3)) :
    va_Run p l e R s m args below meth c H locs cells slots mc ms (F0 m pc ls st) rest (Qc [Value.ref a].toArray) (va_A ws H.size) := by
  have hC2 := hC
  obtain ⟨⟨hx, hb, hml, hown, hts⟩, hN⟩ := hC2
  obtain ⟨h1, h2, h4, h3, h5, h6⟩ := hm
  rcases h6 with h6 | ⟨host, h6⟩
  · exact va_runI (As := []) hC.1 hM ⟨callB_of 0 hts (good_wds h1) rfl rfl rfl (hts _ h4) (hts _ h6) h5 hR, h3, hts _ h2⟩ ⟨preN_blind, q_preN hC hO hW⟩ rfl rfl hsz hst (lv_room hw) hdg hcs
  · exact va_runIN (As := []) hC.1 hM ⟨va_cnB 0 hts (good_wds h1) rfl rfl rfl (hN _ h6) (hts _ h4) h5 hR, h3, hts _ h2⟩ ⟨preN_blind, q_preN hC hO hW⟩ rfl rfl hsz hst (lv_room hw) hdg hcs
/-- new ..(): the object stands last in the world -/
theorem q_IN {pre : va_W} {o : va_E} {R2 : va_W → Prop} (hC : Cx p m c b nL s args own) (hO : AO s) (hW : Wd D cc (pre ++ [(a, o)]) A H0 H locs s) (hc : CtN l D cc y b2 L2 d2 mc ms [.ref a] [(a, o)] R2) (hm : MthI own idx y b2 L2) (hR : d2 + 1 ≤ R.frames ∧ 8 + (L2 + 11) + 36 * d2 ≤ R.locals)
    (hsz : ls.size = nL) (hst : st = .ref a :: rest) (hw : (rest.map fun v => v.category).sum ≤ 8) (hcs : cells + mc ≤ R.cells ∧ slots + ms ≤ R.slots) (hdg : decode b pc = .ok (.invokespecial idx, 3))
    (kk : ∀ (w2 : va_W) (H1 : Heap) (locs1 : List Loc), R2 w2 → Wd D cc (pre ++ w2) A H0 H1 locs1 s → W p l e R s m args below meth c H1 locs1 (cells + mc) (slots + ms) Q (F0 m (pc + 3) ls rest)) : W p l e R s m args below meth c H locs cells slots Q (F0 m pc ls st) := by
  have hF := q_free hW
  refine va_callv (q_runI hC hO hW ((hc.lift pre) H.size) hm hR hsz hst hw hcs hdg) hW.2.2.2.1 (fun q _ h => hF q h) hF (fun u t H1 locs1 ht hvm hp hB hz hk hS => ?_)
  obtain ⟨w2, rfl, hr⟩ := hp
  obtain ⟨h1, h2, h3⟩ := hB
  exact kk w2 H1 locs1 hr ⟨by rw [← ht]; exact h1, hW.2.1, h3.weaken (fun _ q _ h => hF q.1 h), hS, hW.2.2.2.2⟩
theorem q_new {ci : Nat} {fs : List Value} (hC : Cx p m c b nL s args own) (hW : Wd D cc ws A H0 H locs s) (hn : NewC own idx ci fs) (hcs : cells + 1 ≤ R.cells ∧ slots + fs.length ≤ R.slots) (hdg : decode b pc = .ok (.new idx, 3))
    (kk : ∀ (q : Nat) (H1 : Heap), Wd D cc (ws ++ [(q, .inr (ci, fs))]) A H0 H1 locs s → W p l e R s m args below meth c H1 locs (cells + 1) (slots + fs.length) Q (F0 m (pc + 3) ls (.ref q :: rest))) : W p l e R s m args below meth c H locs cells slots Q (F0 m pc ls rest) := by
  obtain ⟨⟨hx, hb, hml, hown, hts⟩, hN⟩ := hC
  obtain ⟨hP, hK, hD, hS, hA⟩ := hW
  obtain ⟨C, T, N, ty, h1, h2, h3, h4, h5, h6, h7, h8⟩ := hn
  subst h8
  exact va_new hx hb hts h2 ty h3 hown (hts _ h4) (hts _ h5) (hts _ h6) hK hP hD hS hA h1 h7 hcs.1 hcs.2 hdg (fun q H1 a1 a2 a3 => kk q H1 ⟨a1, hK, a2, a3, hA⟩)
theorem q_newi (hC : Cx p m c b nL s args own) (hW : Wd D cc ws A H0 H locs s) {v : Int32} (n : Nat) (hv : v = nI n) (hn : n ≤ 1000) (hg : Cond.arrayClass .int ∈ GW) (hcs : cells + 1 ≤ R.cells ∧ slots + n ≤ R.slots) (hdg : decode b pc = .ok (.newarray .int, 2))
    (kk : ∀ (q : Nat) (H1 : Heap), Wd D cc (ws ++ [(q, .inl (cc 0, n, .inl (fun _ => 0)))]) A H0 H1 locs s → W p l e R s m args below meth c H1 locs (cells + 1) (slots + n) Q (F0 m (pc + 2) ls (.ref q :: rest))) : W p l e R s m args below meth c H locs cells slots Q (F0 m pc ls (.int v :: rest)) := by
  obtain ⟨⟨hx, hb, hml, hown, hts⟩, hN⟩ := hC
  obtain ⟨hP, hK, hD, hS, hA⟩ := hW
  subst hv
  refine va_newa (atype := .int) (ty := .int) (a0 := (n, .inl (fun _ => 0))) (N' := n) hx hb (hts _ hg) rfl hK hP hD hS hA (fun _ => rfl) (by rw [ilt, nN (by omega)]; show ¬ ((n : Int) < 0); omega) (nI_clamp (by omega)) (by show n * 4 ≤ 536870912; omega) hcs.1 hcs.2 hdg (fun q cA H1 hK2 hP2 hD2 hS2 => ?_)
  obtain rfl : cA = cc 0 := ra_one (hK2.2 4 (cA, .int) rfl).2 (hK.2 0 (cc 0, .int) rfl).2
  exact kk q H1 ⟨hP2, hK, hD2, hS2, hA⟩
theorem q_newl (hC : Cx p m c b nL s args own) (hW : Wd D cc ws A H0 H locs s) {v : Int32} (n : Nat) (hv : v = nI n) (hn : n ≤ 1000) (hg : Cond.arrayClass .long ∈ GW) (hcs : cells + 1 ≤ R.cells ∧ slots + n ≤ R.slots) (hdg : decode b pc = .ok (.newarray .long, 2))
    (kk : ∀ (q : Nat) (H1 : Heap), Wd D cc (ws ++ [(q, .inl (cc 1, n, .inr (.inl (fun _ => 0))))]) A H0 H1 locs s → W p l e R s m args below meth c H1 locs (cells + 1) (slots + n) Q (F0 m (pc + 2) ls (.ref q :: rest))) : W p l e R s m args below meth c H locs cells slots Q (F0 m pc ls (.int v :: rest)) := by
  obtain ⟨⟨hx, hb, hml, hown, hts⟩, hN⟩ := hC
  obtain ⟨hP, hK, hD, hS, hA⟩ := hW
  subst hv
  refine va_newa (atype := .long) (ty := .long) (a0 := (n, .inr (.inl (fun _ => 0)))) (N' := n) hx hb (hts _ hg) rfl hK hP hD hS hA (fun _ => rfl) (by rw [ilt, nN (by omega)]; show ¬ ((n : Int) < 0); omega) (nI_clamp (by omega)) (by show n * 8 ≤ 536870912; omega) hcs.1 hcs.2 hdg (fun q cA H1 hK2 hP2 hD2 hS2 => ?_)
  obtain rfl : cA = cc 1 := ra_one (hK2.2 4 (cA, .long) rfl).2 (hK.2 1 (cc 1, .long) rfl).2
  exact kk q H1 ⟨hP2, hK, hD2, hS2, hA⟩
theorem q_newq (hC : Cx p m c b nL s args own) (hW : Wd D cc ws A H0 H locs s) {C : String} {cB : ClassId} (t0 : Nat) (ht : (tyL cc)[t0]? = some (cB, .object C)) (hl : Cond.classLink own idx C ∈ GW) (hover : va_AO C s) {v : Int32} (n : Nat) (hv : v = nI n) (hn : n ≤ 1000) (hcs : cells + 1 ≤ R.cells ∧ slots + n ≤ R.slots) (hdg : decode b pc = .ok (.anewarray idx, 3))
    (kk : ∀ (q : Nat) (H1 : Heap), Wd D cc (ws ++ [(q, .inl (cB, n, .inr (.inr (.inr (.inr (fun _ => none))))))]) A H0 H1 locs s → W p l e R s m args below meth c H1 locs (cells + 1) (slots + n) Q (F0 m (pc + 3) ls (.ref q :: rest))) : W p l e R s m args below meth c H locs cells slots Q (F0 m pc ls (.int v :: rest)) := by
  obtain ⟨⟨hx, hb, hml, hown, hts⟩, hN⟩ := hC
  obtain ⟨hP, hK, hD, hS, hA⟩ := hW
  subst hv
  refine va_newq hx hb hown (hts _ hl) hover hK hP hD hS hA (N' := n) (by rw [ilt, nN (by omega)]; show ¬ ((n : Int) < 0); omega) (nI_clamp (by omega)) (by omega) hcs.1 hcs.2 hdg (fun q cA H1 hK2 hP2 hD2 hS2 => ?_)
  obtain rfl : cA = cB := ra_one (hK2.2 4 (cA, .object C) rfl).2 (hK.2 t0 (cB, .object C) ht).2
  exact kk q H1 ⟨hP2, hK, hD2, hS2, hA⟩
theorem q_aast (hC : Cx p m c b nL s args own) (hW : Wd D cc ws A H0 H locs s) (q0 t0 qk ci : Nat) {cA : ClassId} {r : vw_C} {n v : Nat} {vs : List Value} {f : Nat → Option Nat} (ha : ws[q0]? = some (a, .inl (cA, n, .inr (.inr (.inr (.inr f)))))) (ht : (tyL cc)[t0]? = some (cA, .object r.1)) (hv : ws[qk]? = some (v, .inr (ci, vs))) (hc : vwCl[ci]? = some r) {i : Int32} (k : Nat) (hi : i = nI k) (hk : k < n) (hn : n ≤ 1000000) {w2 : va_W} (hset : ws.set q0 (a, .inl (cA, n, .inr (.inr (.inr (.inr (va_up f k (some v))))))) = w2) (hdg : decode b pc = .ok (.aastore, 1))
    (kk : ∀ (H1 : Heap) (locs1 : List Loc), Wd D cc w2 A H0 H1 locs1 s → W p l e R s m args below meth c H1 locs1 cells slots Q (F0 m (pc + 1) ls rest)) : W p l e R s m args below meth c H locs cells slots Q (F0 m pc ls (.ref v :: .int i :: .ref a :: rest)) := by
  obtain ⟨⟨hx, hb, hml, hown, hts⟩, hN⟩ := hC
  obtain ⟨hP, hK, hD, hS, hA⟩ := hW
  refine va_astq hx hb hK hP hD hS q0 t0 qk ci ha ht hv hc (by rw [hi]; exact vp_in_nI hk (by omega)) hdg (fun H1 locs1 a1 a2 a3 => ?_)
  rw [hi, nI_clamp (by omega)] at a1 a2
  rw [hset] at a1 a2
  exact kk H1 locs1 ⟨a1, hK, a2, a3, hA⟩
theorem obj_i : Cond.instanceMethod objectInit ∈ GW := GW_of (i := 22) (by decide +kernel) rfl
theorem obj_c : Cond.code objectInit ⟨#[0xb1]⟩ 1 none ∈ GW := GW_of (i := 23) (by decide +kernel) rfl
theorem q_obj (hC : Cx p m c b nL s args own) (hl : Cond.methodLink own idx objectInit ∈ GW) (hsz : ls.size = nL) (hR : 1 ≤ R.frames ∧ 12 ≤ R.locals) (hdg : decode b pc = .ok (.invokespecial idx, 3))
    (kk : W p l e R s m args below meth c H locs cells slots Q (F0 m (pc + 3) ls [])) : W p l e R s m args below meth c H locs cells slots Q (F0 m pc ls [.ref a]) := by
  obtain ⟨⟨hx, hb, hml, hown, hts⟩, hN⟩ := hC
  exact W.objInit hx hb hown (hts _ hl) (hts _ obj_i) (hts _ obj_c) rfl (by rw [hml]; exact hsz) rfl hdg hR.1 hR.2 kk
theorem q_putF (hC : Cx p m c b nL s args own) (hin : meth.name = "<init>") (hW : Wd D cc ws A H0 H locs s) {ci k : Nat} {ty : FieldType} (hf : FldF ci k ty own idx) (q0 : Nat) {fs : List Value} (he : ws[q0]? = some (a, .inr (ci, fs))) {v : Value} {w2 : va_W} (hset : ws.set q0 (a, .inr (ci, fs.set k v)) = w2) (hn : narrow ty v = v) (hfit : fits ty v = true) (hl : k < fs.length) (hdg : decode b pc = .ok (.putfield idx, 3))
    (kk : ∀ (H1 : Heap) (locs1 : List Loc), Wd D cc w2 A H0 H1 locs1 s → W p l e R s m args below meth c H1 locs1 cells slots Q (F0 m (pc + 3) ls rest)) : W p l e R s m args below meth c H locs cells slots Q (F0 m pc ls (v :: .ref a :: rest)) := by
  obtain ⟨⟨hx, hb, hml, hown, hts⟩, hN⟩ := hC
  obtain ⟨hP, hK, hD, hS, hA⟩ := hW
  obtain ⟨T, N, ty0, h1, h2, h3, h4, h5, h6, h7, h8, h9⟩ := hf
  subst hset
  have hd : parseFieldDescriptor (T k).2.2.1 = some ty := by rw [h4 k h2, h7]
  exact va_putF (D := D) hx hb hts h3 ty0 h4 h5 hown hK hP hD hS q0 he h1 k h2 (hts _ h9) (fun _ q => by rw [h6] at q; exact q) h8 hin h6 hd hn hfit hl hdg (fun H1 locs1 a1 a2 a3 => kk H1 locs1 ⟨a1, hK, a2, a3, hA⟩)
end KitM
