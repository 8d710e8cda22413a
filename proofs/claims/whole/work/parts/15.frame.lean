/-! ===== the frame rule for whole contracts: a contract over a world holds with any cells beside it ===== -/
theorem vP_app {D : va_G} {cl : List vw_C} {a b : va_W} {H : Heap} (h : va_P D cl (a ++ b) H) : va_P D cl a H ∧ va_P D cl b H := by
  refine ⟨fun k q hk => h k q ?_, fun k q hk => h (a.length + k) q ?_⟩
  · rw [List.getElem?_append_left (List.getElem?_eq_some_iff.mp hk).1]
    exact hk
  · rw [List.getElem?_append_right (by omega), Nat.add_sub_cancel_left]
    exact hk
theorem vD_app {A : Nat → Prop} {a b : va_W} (h : va_D A (a ++ b)) : va_D A a ∧ va_D A b ∧ ∀ (i j : Nat) (p q : Nat × va_E), a[i]? = some p → b[j]? = some q → p.1 ≠ q.1 := by
  have gl : ∀ (k : Nat) (q : Nat × va_E), a[k]? = some q → (a ++ b)[k]? = some q := fun k q hk => by
    rw [List.getElem?_append_left (List.getElem?_eq_some_iff.mp hk).1]
    exact hk
  have gr : ∀ (k : Nat) (q : Nat × va_E), b[k]? = some q → (a ++ b)[a.length + k]? = some q := fun k q hk => by
    rw [List.getElem?_append_right (by omega), Nat.add_sub_cancel_left]
    exact hk
  refine ⟨⟨fun i j p q hi hj e => h.1 i j p q (gl i p hi) (gl j q hj) e, fun k q hk => h.2 k q (gl k q hk)⟩, ⟨fun i j p q hi hj e => ?_, fun k q hk => h.2 _ q (gr k q hk)⟩, fun i j p q hi hj e => ?_⟩
  · have := h.1 _ _ p q (gr i p hi) (gr j q hj) e
    omega
  · have h1 := h.1 _ _ p q (gl i p hi) (gr j q hj) e
    have h2 := (List.getElem?_eq_some_iff.mp hi).1
    omega
theorem vA_sub {X W Y : va_W} {sz : Nat} {q : Nat} (h : va_A W sz q) : va_A (X ++ W ++ Y) sz q := by
  rcases h with ⟨k, e, h⟩ | h
  · refine Or.inl ⟨X.length + k, e, ?_⟩
    rw [List.append_assoc, List.getElem?_append_right (by omega), Nat.add_sub_cancel_left, List.getElem?_append_left (List.getElem?_eq_some_iff.mp h).1]
    exact h
  · exact Or.inr h
theorem fr_pre {D : va_G} {cc : Nat → ClassId} {X W Y : va_W} {sz : Nat} {U : State} (h : PreB D cc (X ++ W ++ Y) sz U) : PreB D cc W sz U := by
  obtain ⟨h0, h1, h2, h3, h4⟩ := h
  exact ⟨h0, (vP_app (vP_app h1).1).2, h2, (vD_app (vD_app h3).1).2.1, h4⟩
theorem fr_post {D : va_G} {cc : Nat → ClassId} {X W Y W2 : va_W} {sz : Nat} {s t : State} {u : Unit} (h : PreB D cc (X ++ W ++ Y) sz s) (hB : PostB D cc W W2 sz u t) (hF : va_F (va_A W sz) s t) : PostB D cc (X ++ W ++ Y) (X ++ W2 ++ Y) sz u t ∧ va_F (va_A (X ++ W ++ Y) sz) s t := by
  obtain ⟨h0, h1, h2, h3, h4⟩ := h
  obtain ⟨g1, g2, g3⟩ := hB
  obtain ⟨p1, pY⟩ := vP_app h1
  obtain ⟨pX, pW⟩ := vP_app p1
  obtain ⟨d1, dY, aY⟩ := vD_app h3
  obtain ⟨dX, dW, aX⟩ := vD_app d1
  have nX : ∀ (k : Nat) (q : Nat × va_E), X[k]? = some q → ¬ va_A W sz q.1 := by
    intro k q hk z
    rcases z with ⟨j, e, z⟩ | z
    · exact aX k j q (q.1, e) hk z rfl
    · have := (pX k q hk).lt
      omega
  have nY : ∀ (k : Nat) (q : Nat × va_E), Y[k]? = some q → ¬ va_A W sz q.1 := by
    intro k q hk z
    rcases z with ⟨j, e, z⟩ | z
    · refine aY (X.length + j) k (q.1, e) q ?_ hk rfl
      rw [List.getElem?_append_right (by omega), Nat.add_sub_cancel_left]
      exact z
    · have := (pY k q hk).lt
      omega
  have kX : va_P D vwCl X t.heap := pX.kept (fun k q hk => hF.2 q.1 (pX k q hk).lt (nX k q hk))
  have kY : va_P D vwCl Y t.heap := pY.kept (fun k q hk => hF.2 q.1 (pY k q hk).lt (nY k q hk))
  have iX : ∀ (k : Nat) (q : Nat × va_E), X[k]? = some q → va_A (X ++ W ++ Y) sz q.1 := fun k q hk => by
    refine Or.inl ⟨k, q.2, ?_⟩
    have hl := (List.getElem?_eq_some_iff.mp hk).1
    rw [List.append_assoc, List.getElem?_append_left hl]
    exact hk
  have iY : ∀ (k : Nat) (q : Nat × va_E), Y[k]? = some q → va_A (X ++ W ++ Y) sz q.1 := fun k q hk => by
    refine Or.inl ⟨(X ++ W).length + k, q.2, ?_⟩
    rw [List.getElem?_append_right (by omega), Nat.add_sub_cancel_left]
    exact hk
  refine ⟨⟨(kX.app g1).app kY, g2, va_D.app (va_D.app ⟨dX.1, iX⟩ (g3.weaken (fun _ _ _ z => vA_sub z)) (fun i j p q hi hj e => ?_)) ⟨dY.1, iY⟩ (fun i j p q hi hj e => ?_)⟩, hF.1, fun q hq hn => hF.2 q hq (fun z => hn (vA_sub z))⟩
  · exact nX i p hi (by rw [e]; exact g3.2 j q hj)
  · by_cases hiX : i < X.length
    · rw [List.getElem?_append_left hiX] at hi
      refine aY i j p q ?_ hj e
      rw [List.getElem?_append_left hiX]
      exact hi
    · rw [List.getElem?_append_right (by omega)] at hi
      exact nY j q hj (by rw [← e]; exact g3.2 _ p hi)
section Frm
variable {l : Launch} {D : va_G} {cc : Nat → ClassId} {y : MethodName} {b : ByteArray} {L d : Nat} {rt : FieldType} {av : List Value} {ws ws2 wx wx2 : va_W}
theorem CtI.lift {r : Int32} (h : CtI l D cc y b L rt d av ws r ws2) (X Y : va_W) (e1 : wx = X ++ ws ++ Y) (e2 : wx2 = X ++ ws2 ++ Y) : CtI l D cc y b L rt d av wx r wx2 := by
  subst e1; subst e2
  intro sz p e ha hc hk s m args below hf happ hP hK
  obtain ⟨n, o, h1, h2, h3, ⟨⟨r', u, ho, hr, hB⟩, hF⟩, LL, hE, hfree⟩ := h sz p e ha hc hk s m args below hf happ ⟨hP.1, fr_pre hP.2⟩ hK
  obtain ⟨q1, q2⟩ := fr_post hP.2 hB hF
  exact ⟨n, o, h1, h2, h3, ⟨⟨r', u, ho, hr, q1⟩, q2⟩, LL, hE, fun q hq => vA_sub (hfree q hq)⟩
theorem CtL.lift {r : Int64} (h : CtL l D cc y b L d av ws r ws2) (X Y : va_W) (e1 : wx = X ++ ws ++ Y) (e2 : wx2 = X ++ ws2 ++ Y) : CtL l D cc y b L d av wx r wx2 := by
  subst e1; subst e2
  intro sz p e ha hc hk s m args below hf happ hP hK
  obtain ⟨n, o, h1, h2, h3, ⟨⟨r', u, ho, hr, hB⟩, hF⟩, LL, hE, hfree⟩ := h sz p e ha hc hk s m args below hf happ ⟨hP.1, fr_pre hP.2⟩ hK
  obtain ⟨q1, q2⟩ := fr_post hP.2 hB hF
  exact ⟨n, o, h1, h2, h3, ⟨⟨r', u, ho, hr, q1⟩, q2⟩, LL, hE, fun q hq => vA_sub (hfree q hq)⟩
theorem CtV.lift (h : CtV l D cc y b L d av ws ws2) (X Y : va_W) (e1 : wx = X ++ ws ++ Y) (e2 : wx2 = X ++ ws2 ++ Y) : CtV l D cc y b L d av wx wx2 := by
  subst e1; subst e2
  intro sz p e ha hc hk s m args below hf happ hP hK
  obtain ⟨n, o, h1, h2, h3, ⟨⟨u, ho, hr, hB⟩, hF⟩, LL, hE, hfree⟩ := h sz p e ha hc hk s m args below hf happ ⟨hP.1, fr_pre hP.2⟩ hK
  obtain ⟨q1, q2⟩ := fr_post hP.2 hB hF
  exact ⟨n, o, h1, h2, h3, ⟨⟨u, ho, hr, q1⟩, q2⟩, LL, hE, fun q hq => vA_sub (hfree q hq)⟩
end Frm
