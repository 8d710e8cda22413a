/-! ===== one call on both sides ===== -/
def JJ (S S2 T : St) (B : Int) (m : Nat) : Prop := J S T B m ∧ Z0 S ∧ Inv S2
theorem JJ.up {S S2 T : St} {B : Int} {m : Nat} (h : JJ S S2 T B m) : JJ S S2 T (B + 300) (m + 1) := ⟨h.1.mono (by omega) (by omega), h.2⟩
theorem JJ.invM {S S2 T : St} {B : Int} {m : Nat} (h : JJ S S2 T B m) (hm : m ≤ 511) : InvM T := (relM_facts h.1.1 h.1.2.1 (Nat.le_trans h.1.2.2.2.2 (by omega))).1
section Eqr
variable {l : Launch} {D : va_G} {cc : Nat → ClassId} {y : MethodName} {b : ByteArray} {L d : Nat} {rt : FieldType} {av : List Value} {ws ws2 : va_W}
theorem CtI.eqr {r r' : Int32} (h : CtI l D cc y b L rt d av ws r ws2) (e : r' = r) : CtI l D cc y b L rt d av ws r' ws2 := by rw [e]; exact h
theorem CtL.eqr {r r' : Int64} (h : CtL l D cc y b L d av ws r ws2) (e : r' = r) : CtL l D cc y b L d av ws r' ws2 := by rw [e]; exact h
end Eqr
theorem st_reset (l : Launch) (D : va_G) (cc : Nat → ClassId) (h : Nat) (ad a2 am : Nat → Nat) {S S2 T : St} {B : Int} {m : Nat} (hJ : JJ S S2 T B m) (hB : 0 ≤ B ∧ B ≤ 199000) (hm : m ≤ 511) (x1 : Int32) : ∃ (r : Int32) (S1 S3 T1 : St), CtI l D cc yX11_reset cX11_reset 3 .int 3 [.ref h, .int x1] (CW cc h ad a2 S S2) r (CW cc h ad a2 S1 S3) ∧ CtI l D cc yX12_reset cX12_reset 3 .int 2 [.ref (am 0), .int x1] (MW cc am T) r (MW cc am T1) ∧ JJ S1 S3 T1 (B + 300) (m + 1) := by
  obtain ⟨e, j, z⟩ := op_reset hJ.1 hJ.2.1 hB.1 S2 x1
  exact ⟨_, _, S2, _, c_X11_reset l D cc h ad a2 S S2 x1, (c_X12_reset l D cc am T x1).eqr e, j.mono (by omega) (by omega), z, hJ.2.2⟩
theorem st_addSpan (l : Launch) (D : va_G) (cc : Nat → ClassId) (h : Nat) (ad a2 am : Nat → Nat) {S S2 T : St} {B : Int} {m : Nat} (hJ : JJ S S2 T B m) (hB : 0 ≤ B ∧ B ≤ 199000) (hm : m ≤ 511) (x1 : Int32) : ∃ (r : Int32) (S1 S3 T1 : St), CtI l D cc yX11_addSpan cX11_addSpan 2 .int 2 [.ref h, .int x1] (CW cc h ad a2 S S2) r (CW cc h ad a2 S1 S3) ∧ CtI l D cc yX12_addSpan cX12_addSpan 2 .int 2 [.ref (am 0), .int x1] (MW cc am T) r (MW cc am T1) ∧ JJ S1 S3 T1 (B + 300) (m + 1) := by
  obtain ⟨e, j, z⟩ := op_addSpan hJ.1 hJ.2.1 hB.1 S2 x1
  exact ⟨_, _, S2, _, c_X11_addSpan l D cc h ad a2 S S2 x1 hJ.1.1, (c_X12_addSpan l D cc am T x1 (hJ.invM hm)).eqr e, j.mono (by omega) (by omega), z, hJ.2.2⟩
theorem st_setWeb (l : Launch) (D : va_G) (cc : Nat → ClassId) (h : Nat) (ad a2 am : Nat → Nat) {S S2 T : St} {B : Int} {m : Nat} (hJ : JJ S S2 T B m) (hB : 0 ≤ B ∧ B ≤ 199000) (hm : m ≤ 511) (x1 : Int32) (x2 : Int32) : ∃ (r : Int32) (S1 S3 T1 : St), CtI l D cc yX11_setWeb cX11_setWeb 3 .int 1 [.ref h, .int x1, .int x2] (CW cc h ad a2 S S2) r (CW cc h ad a2 S1 S3) ∧ CtI l D cc yX12_setWeb cX12_setWeb 4 .int 1 [.ref (am 0), .int x1, .int x2] (MW cc am T) r (MW cc am T1) ∧ JJ S1 S3 T1 (B + 300) (m + 1) := by
  obtain ⟨e, j⟩ := op_setWeb hJ.1 S2 x1 x2
  refine ⟨_, _, S2, _, c_X11_setWeb l D cc h ad a2 S S2 x1 x2, (c_X12_setWeb l D cc am T x1 x2).eqr e, j.mono (by omega) (by omega), ?_, hJ.2.2⟩
  unfold sX11_setWeb_S
  repeat' split
  all_goals first | exact hJ.2.1 | exact hJ.2.1.kI _ _ _ (by omega) | exact (hJ.2.1.kI _ _ _ (by omega)).kI _ _ _ (by omega)
theorem st_setStrength (l : Launch) (D : va_G) (cc : Nat → ClassId) (h : Nat) (ad a2 am : Nat → Nat) {S S2 T : St} {B : Int} {m : Nat} (hJ : JJ S S2 T B m) (hB : 0 ≤ B ∧ B ≤ 199000) (hm : m ≤ 511) (x1 : Int32) (x2 : Int32) : ∃ (r : Int32) (S1 S3 T1 : St), CtI l D cc yX11_setStrength cX11_setStrength 3 .int 1 [.ref h, .int x1, .int x2] (CW cc h ad a2 S S2) r (CW cc h ad a2 S1 S3) ∧ CtI l D cc yX12_setStrength cX12_setStrength 4 .int 1 [.ref (am 0), .int x1, .int x2] (MW cc am T) r (MW cc am T1) ∧ JJ S1 S3 T1 (B + 300) (m + 1) := by
  obtain ⟨e, j⟩ := op_setStrength hJ.1 S2 x1 x2
  refine ⟨_, _, S2, _, c_X11_setStrength l D cc h ad a2 S S2 x1 x2, (c_X12_setStrength l D cc am T x1 x2).eqr e, j.mono (by omega) (by omega), ?_, hJ.2.2⟩
  unfold sX11_setStrength_S
  repeat' split
  all_goals first | exact hJ.2.1 | exact hJ.2.1.kI _ _ _ (by omega) | exact (hJ.2.1.kI _ _ _ (by omega)).kI _ _ _ (by omega)
theorem st_setSpeed (l : Launch) (D : va_G) (cc : Nat → ClassId) (h : Nat) (ad a2 am : Nat → Nat) {S S2 T : St} {B : Int} {m : Nat} (hJ : JJ S S2 T B m) (hB : 0 ≤ B ∧ B ≤ 199000) (hm : m ≤ 511) (x1 : Int32) (x2 : Int32) : ∃ (r : Int32) (S1 S3 T1 : St), CtI l D cc yX11_setSpeed cX11_setSpeed 3 .int 1 [.ref h, .int x1, .int x2] (CW cc h ad a2 S S2) r (CW cc h ad a2 S1 S3) ∧ CtI l D cc yX12_setSpeed cX12_setSpeed 4 .int 1 [.ref (am 0), .int x1, .int x2] (MW cc am T) r (MW cc am T1) ∧ JJ S1 S3 T1 (B + 300) (m + 1) := by
  obtain ⟨e, j⟩ := op_setSpeed hJ.1 S2 x1 x2
  refine ⟨_, _, S2, _, c_X11_setSpeed l D cc h ad a2 S S2 x1 x2, (c_X12_setSpeed l D cc am T x1 x2).eqr e, j.mono (by omega) (by omega), ?_, hJ.2.2⟩
  unfold sX11_setSpeed_S
  repeat' split
  all_goals first | exact hJ.2.1 | exact hJ.2.1.kI _ _ _ (by omega) | exact (hJ.2.1.kI _ _ _ (by omega)).kI _ _ _ (by omega)
theorem st_setSplicing (l : Launch) (D : va_G) (cc : Nat → ClassId) (h : Nat) (ad a2 am : Nat → Nat) {S S2 T : St} {B : Int} {m : Nat} (hJ : JJ S S2 T B m) (hB : 0 ≤ B ∧ B ≤ 199000) (hm : m ≤ 511) (x1 : Int32) (x2 : Int32) : ∃ (r : Int32) (S1 S3 T1 : St), CtI l D cc yX11_setSplicing cX11_setSplicing 3 .int 1 [.ref h, .int x1, .int x2] (CW cc h ad a2 S S2) r (CW cc h ad a2 S1 S3) ∧ CtI l D cc yX12_setSplicing cX12_setSplicing 4 .int 1 [.ref (am 0), .int x1, .int x2] (MW cc am T) r (MW cc am T1) ∧ JJ S1 S3 T1 (B + 300) (m + 1) := by
  obtain ⟨e, j⟩ := op_setSplicing hJ.1 S2 x1 x2
  refine ⟨_, _, S2, _, c_X11_setSplicing l D cc h ad a2 S S2 x1 x2, (c_X12_setSplicing l D cc am T x1 x2).eqr e, j.mono (by omega) (by omega), ?_, hJ.2.2⟩
  unfold sX11_setSplicing_S
  repeat' split
  all_goals first | exact hJ.2.1 | exact hJ.2.1.kI _ _ _ (by omega) | exact (hJ.2.1.kI _ _ _ (by omega)).kI _ _ _ (by omega)
theorem st_setRollLength (l : Launch) (D : va_G) (cc : Nat → ClassId) (h : Nat) (ad a2 am : Nat → Nat) {S S2 T : St} {B : Int} {m : Nat} (hJ : JJ S S2 T B m) (hB : 0 ≤ B ∧ B ≤ 199000) (hm : m ≤ 511) (x1 : Int32) : ∃ (r : Int32) (S1 S3 T1 : St), CtI l D cc yX11_setRollLength cX11_setRollLength 3 .int 1 [.ref h, .int x1] (CW cc h ad a2 S S2) r (CW cc h ad a2 S1 S3) ∧ CtI l D cc yX12_setRollLength cX12_setRollLength 3 .int 1 [.ref (am 0), .int x1] (MW cc am T) r (MW cc am T1) ∧ JJ S1 S3 T1 (B + 300) (m + 1) := by
  obtain ⟨e, j⟩ := op_setRollLength hJ.1 S2 x1
  refine ⟨_, _, S2, _, c_X11_setRollLength l D cc h ad a2 S S2 x1, (c_X12_setRollLength l D cc am T x1).eqr e, j.mono (by omega) (by omega), ?_, hJ.2.2⟩
  unfold sX11_setRollLength_S
  repeat' split
  all_goals first | exact hJ.2.1 | exact hJ.2.1.kI _ _ _ (by omega) | exact (hJ.2.1.kI _ _ _ (by omega)).kI _ _ _ (by omega)
theorem st_setDancer (l : Launch) (D : va_G) (cc : Nat → ClassId) (h : Nat) (ad a2 am : Nat → Nat) {S S2 T : St} {B : Int} {m : Nat} (hJ : JJ S S2 T B m) (hB : 0 ≤ B ∧ B ≤ 199000) (hm : m ≤ 511) (x1 : Int32) (x2 : Int32) (x3 : Int32) (x4 : Int32) (x5 : Int32) (x6 : Int32) : ∃ (r : Int32) (S1 S3 T1 : St), CtI l D cc yX11_setDancer cX11_setDancer 7 .int 2 [.ref h, .int x1, .int x2, .int x3, .int x4, .int x5, .int x6] (CW cc h ad a2 S S2) r (CW cc h ad a2 S1 S3) ∧ CtI l D cc yX12_setDancer cX12_setDancer 7 .int 2 [.ref (am 0), .int x1, .int x2, .int x3, .int x4, .int x5, .int x6] (MW cc am T) r (MW cc am T1) ∧ JJ S1 S3 T1 (B + 300) (m + 1) := by
  rcases span_split hJ.1 x1 with ⟨j, rfl, hj, -⟩ | ⟨n1, n2⟩
  · obtain ⟨e, j1, z⟩ := op_setDancer hJ.1 hJ.2.1 hB.1 S2 j hj x2 x3 x4 x5 x6
    exact ⟨_, _, S2, _, c_X11_setDancer l D cc h ad a2 S S2 j x2 x3 x4 x5 x6 hJ.1.1 hj, (c_X12_setDancer l D cc am T j x2 x3 x4 x5 x6 (hJ.invM hm) (by rw [hJ.1.cN_T]; exact hj)).eqr e, j1.mono (by omega) (by omega), z, hJ.2.2⟩
  · exact ⟨_, S, S2, T, c_X11_setDancer_no l D cc h ad a2 S S2 x1 x2 x3 x4 x5 x6 n1, (c_X12_setDancer_no l D cc am T x1 x2 x3 x4 x5 x6 n2).eqr rfl, hJ.up⟩
theorem st_setLoadCell (l : Launch) (D : va_G) (cc : Nat → ClassId) (h : Nat) (ad a2 am : Nat → Nat) {S S2 T : St} {B : Int} {m : Nat} (hJ : JJ S S2 T B m) (hB : 0 ≤ B ∧ B ≤ 199000) (hm : m ≤ 511) (x1 : Int32) (x2 : Int32) (x3 : Int32) : ∃ (r : Int32) (S1 S3 T1 : St), CtI l D cc yX11_setLoadCell cX11_setLoadCell 4 .int 2 [.ref h, .int x1, .int x2, .int x3] (CW cc h ad a2 S S2) r (CW cc h ad a2 S1 S3) ∧ CtI l D cc yX12_setLoadCell cX12_setLoadCell 4 .int 2 [.ref (am 0), .int x1, .int x2, .int x3] (MW cc am T) r (MW cc am T1) ∧ JJ S1 S3 T1 (B + 300) (m + 1) := by
  rcases span_split hJ.1 x1 with ⟨j, rfl, hj, -⟩ | ⟨n1, n2⟩
  · obtain ⟨e, j1, z⟩ := op_setLoadCell hJ.1 hJ.2.1 hB.1 S2 j hj x2 x3
    exact ⟨_, _, S2, _, c_X11_setLoadCell l D cc h ad a2 S S2 j x2 x3 hJ.1.1 hj, (c_X12_setLoadCell l D cc am T j x2 x3 (hJ.invM hm) (by rw [hJ.1.cN_T]; exact hj)).eqr e, j1.mono (by omega) (by omega), z, hJ.2.2⟩
  · exact ⟨_, S, S2, T, c_X11_setLoadCell_no l D cc h ad a2 S S2 x1 x2 x3 n1, (c_X12_setLoadCell_no l D cc am T x1 x2 x3 n2).eqr rfl, hJ.up⟩
theorem st_steadyTension (l : Launch) (D : va_G) (cc : Nat → ClassId) (h : Nat) (ad a2 am : Nat → Nat) {S S2 T : St} {B : Int} {m : Nat} (hJ : JJ S S2 T B m) (hB : 0 ≤ B ∧ B ≤ 199000) (hm : m ≤ 511) (x1 : Int32) : ∃ (r : Int32) (S1 S3 T1 : St), CtI l D cc yX11_steadyTension cX11_steadyTension 3 .int 3 [.ref h, .int x1] (CW cc h ad a2 S S2) r (CW cc h ad a2 S1 S3) ∧ CtI l D cc yX12_steadyTension cX12_steadyTension 2 .int 3 [.ref (am 0), .int x1] (MW cc am T) r (MW cc am T1) ∧ JJ S1 S3 T1 (B + 300) (m + 1) := by
  rcases span_split hJ.1 x1 with ⟨j, rfl, hj, -⟩ | ⟨n1, n2⟩
  · exact ⟨_, S, S2, T, c_X11_steadyTension l D cc h ad a2 S S2 j hJ.1.1 hj, (c_X12_steadyTension l D cc am T j (hJ.invM hm) (by rw [hJ.1.cN_T]; exact hj)).eqr (op_steadyTension hJ.1 S2 j hj), hJ.up⟩
  · exact ⟨_, S, S2, T, c_X11_steadyTension_no l D cc h ad a2 S S2 x1  n1, (c_X12_steadyTension_no l D cc am T x1  n2).eqr rfl, hJ.up⟩
theorem st_bestDraw (l : Launch) (D : va_G) (cc : Nat → ClassId) (h : Nat) (ad a2 am : Nat → Nat) {S S2 T : St} {B : Int} {m : Nat} (hJ : JJ S S2 T B m) (hB : 0 ≤ B ∧ B ≤ 199000) (hm : m ≤ 511) (x1 : Int32) (x2 : Int32) : ∃ (r : Int32) (S1 S3 T1 : St), CtI l D cc yX11_bestDraw cX11_bestDraw 12 .int 4 [.ref h, .int x1, .int x2] (CW cc h ad a2 S S2) r (CW cc h ad a2 S1 S3) ∧ CtI l D cc yX12_bestDraw cX12_bestDraw 11 .int 3 [.ref (am 0), .int x1, .int x2] (MW cc am T) r (MW cc am T1) ∧ JJ S1 S3 T1 (B + 300) (m + 1) := by
  rcases span_split hJ.1 x1 with ⟨j, rfl, hj, -⟩ | ⟨n1, n2⟩
  · obtain ⟨e, j1⟩ := op_bestDraw hJ.1 S2 j hj x2
    exact ⟨_, S, S2, _, c_X11_bestDraw l D cc h ad a2 S S2 j x2 hJ.1.1 hj, (c_X12_bestDraw l D cc am T j x2 (hJ.invM hm) (by rw [hJ.1.cN_T]; exact hj)).eqr e, JJ.up ⟨j1, hJ.2⟩⟩
  · exact ⟨_, S, S2, T, c_X11_bestDraw_no l D cc h ad a2 S S2 x1 x2 n1, (c_X12_bestDraw_no l D cc am T x1 x2 n2).eqr rfl, hJ.up⟩
theorem st_measure (l : Launch) (D : va_G) (cc : Nat → ClassId) (h : Nat) (ad a2 am : Nat → Nat) {S S2 T : St} {B : Int} {m : Nat} (hJ : JJ S S2 T B m) (hB : 0 ≤ B ∧ B ≤ 199000) (hm : m ≤ 511) (x1 : Int32) (x2 : Int32) : ∃ (r : Int64) (S1 S3 T1 : St), CtL l D cc yX11_measure cX11_measure 4 3 [.ref h, .int x1, .int x2] (CW cc h ad a2 S S2) r (CW cc h ad a2 S1 S3) ∧ CtL l D cc yX12_measure cX12_measure 3 3 [.ref (am 0), .int x1, .int x2] (MW cc am T) r (MW cc am T1) ∧ JJ S1 S3 T1 (B + 300) (m + 1) := by
  rcases span_split hJ.1 x1 with ⟨j, rfl, hj, -⟩ | ⟨n1, n2⟩
  · exact ⟨_, S, S2, T, c_X11_measure l D cc h ad a2 S S2 j x2 hJ.1.1 hj, (c_X12_measure l D cc am T j x2 (hJ.invM hm) (by rw [hJ.1.cN_T]; exact hj) (hJ.1.span j hj).2.2).eqr (op_measure hJ.1 (by omega) (by omega) S2 j hj x2), hJ.up⟩
  · exact ⟨_, S, S2, T, c_X11_measure_no l D cc h ad a2 S S2 x1 x2 n1, (c_X12_measure_no l D cc am T x1 x2 n2).eqr rfl, hJ.up⟩
theorem st_setDraw (l : Launch) (D : va_G) (cc : Nat → ClassId) (h : Nat) (ad a2 am : Nat → Nat) {S S2 T : St} {B : Int} {m : Nat} (hJ : JJ S S2 T B m) (hB : 0 ≤ B ∧ B ≤ 199000) (hm : m ≤ 511) (x1 : Int32) (x2 : Int32) : ∃ (r : Int32) (S1 S3 T1 : St), CtI l D cc yX11_setDraw cX11_setDraw 4 .int 1 [.ref h, .int x1, .int x2] (CW cc h ad a2 S S2) r (CW cc h ad a2 S1 S3) ∧ CtI l D cc yX12_setDraw cX12_setDraw 4 .int 1 [.ref (am 0), .int x1, .int x2] (MW cc am T) r (MW cc am T1) ∧ JJ S1 S3 T1 (B + 300) (m + 1) := by
  rcases draw_split hJ.1 x1 with ⟨r, rfl, h1, h2⟩ | ⟨n1, n2⟩
  · obtain ⟨e, j⟩ := op_setDraw hJ.1 S2 r h1 h2 x2
    refine ⟨_, _, S2, _, c_X11_setDraw l D cc h ad a2 S S2 r x2 hJ.1.1 ⟨h1, h2⟩, (c_X12_setDraw l D cc am T r x2 (hJ.invM hm) ⟨h1, by rw [hJ.1.cN_T]; exact h2⟩).eqr e, j.mono (by omega) (by omega), ?_, hJ.2.2⟩
    unfold sX11_setDraw_S
    repeat' split
    all_goals first | exact hJ.2.1 | exact hJ.2.1.kI _ _ _ (by omega)
  · exact ⟨_, S, S2, T, c_X11_setDraw_no l D cc h ad a2 S S2 x1 x2 n1, (c_X12_setDraw_no l D cc am T x1 x2 n2).eqr rfl, hJ.up⟩
theorem st_loadRoll (l : Launch) (D : va_G) (cc : Nat → ClassId) (h : Nat) (ad a2 am : Nat → Nat) {S S2 T : St} {B : Int} {m : Nat} (hJ : JJ S S2 T B m) (hB : 0 ≤ B ∧ B ≤ 199000) (hm : m ≤ 511) (x1 : Int32) : ∃ (r : Int32) (S1 S3 T1 : St), CtI l D cc yX11_loadRoll cX11_loadRoll 2 .int 1 [.ref h, .int x1] (CW cc h ad a2 S S2) r (CW cc h ad a2 S1 S3) ∧ CtI l D cc yX12_loadRoll cX12_loadRoll 3 .int 1 [.ref (am 0), .int x1] (MW cc am T) r (MW cc am T1) ∧ JJ S1 S3 T1 (B + 300) (m + 1) := by
  obtain ⟨e, j⟩ := op_loadRoll hJ.1 hB.1 hm S2 x1
  refine ⟨_, _, S2, _, c_X11_loadRoll l D cc h ad a2 S S2 x1 hJ.1.1, (c_X12_loadRoll l D cc am T x1 (hJ.invM hm)).eqr e, j.mono (by omega) (by omega), ?_, hJ.2.2⟩
  unfold sX11_loadRoll_S sX9_put_S
  repeat' split
  all_goals first | exact hJ.2.1 | exact (hJ.2.1.kI _ _ _ (by omega)).kI _ _ _ (by omega) | exact hJ.2.1.kJ _ _ _ (by omega) | exact hJ.2.1.kI _ _ _ (by omega)
theorem st_run (l : Launch) (D : va_G) (cc : Nat → ClassId) (h : Nat) (ad a2 am : Nat → Nat) {S S2 T : St} {B : Int} {m : Nat} (hJ : JJ S S2 T B m) (hB : 0 ≤ B ∧ B ≤ 199000) (hm : m ≤ 511) (x1 : Int32) : ∃ (r : Int32) (S1 S3 T1 : St), CtI l D cc yX11_run cX11_run 3 .int 6 [.ref h, .int x1] (CW cc h ad a2 S S2) r (CW cc h ad a2 S1 S3) ∧ CtI l D cc yX12_run cX12_run 3 .int 5 [.ref (am 0), .int x1] (MW cc am T) r (MW cc am T1) ∧ JJ S1 S3 T1 (B + 300) (m + 1) := by
  rcases tick_split x1 with ⟨t, rfl, h1, h2, h3⟩ | ⟨n1, n2⟩
  · obtain ⟨e, j, o⟩ := op_run hJ.1 S2 t (by omega) (by omega)
    exact ⟨_, _, S2, _, c_X11_run l D cc h ad a2 S S2 t hJ.1.1 h2 h3, (c_X12_run l D cc am T t (hJ.invM hm) h1 h2 o).eqr e, j.mono (by omega) (by omega), Z0.run hJ.1 hJ.2.1 S2 t (by omega) (by omega) t (Nat.le_refl _), hJ.2.2⟩
  · exact ⟨_, S, S2, T, c_X11_run_no l D cc h ad a2 S S2 x1 n1, (c_X12_run_no l D cc am T x1 n2).eqr rfl, hJ.up⟩
theorem st_thread (l : Launch) (D : va_G) (cc : Nat → ClassId) (h : Nat) (ad a2 am : Nat → Nat) {S S2 T : St} {B : Int} {m : Nat} (hJ : JJ S S2 T B m) (hB : 0 ≤ B ∧ B ≤ 199000) (hm : m ≤ 511) : ∃ (r : Int32) (S1 S3 T1 : St), CtI l D cc yX11_thread cX11_thread 1 .int 3 [.ref h] (CW cc h ad a2 S S2) r (CW cc h ad a2 S1 S3) ∧ CtI l D cc yX12_thread cX12_thread 2 .int 2 [.ref (am 0)] (MW cc am T) r (MW cc am T1) ∧ JJ S1 S3 T1 (B + 300) (m + 1) := by
  have hs := hJ.1.state
  have c1 := c_X11_thread l D cc h ad a2 S S2 hJ.1.1
  by_cases c : S.1 0 2 = 0
  · have e1 : sX11_thread S S2 = -1000003 := by unfold sX11_thread; rw [if_pos c]
    have e2 : sX11_thread_S S S2 = S := by unfold sX11_thread_S; rw [if_pos c]
    rw [e1, e2] at c1
    exact ⟨_, S, S2, T, c1, (c_X12_thread_no l D cc am T (hs.mpr c)).eqr rfl, hJ.up⟩
  · have e1 : sX11_thread S S2 = 1 := by unfold sX11_thread; rw [if_neg c]
    have e2 : sX11_thread_S S S2 = LX3_threadAnew_40_S S (cN S) := by unfold sX11_thread_S; rw [if_neg c]; rfl
    have c2 := c_X12_thread l D cc am T (hJ.invM hm) (fun z => c (hs.mp z))
    have e3 : sX12_thread_S T = LX12_thread_71_S T (cN S) := by unfold sX12_thread_S; rw [hJ.1.cN_T]
    rw [e1, e2] at c1
    rw [e3] at c2
    obtain ⟨j, z⟩ := op_thread hJ.1 hB.1
    exact ⟨_, _, S2, _, c1, c2.eqr rfl, j.mono (by omega) (by omega), z, hJ.2.2⟩
theorem st_value (l : Launch) (D : va_G) (cc : Nat → ClassId) (h : Nat) (ad a2 am : Nat → Nat) {S S2 T : St} {B : Int} {m : Nat} (hJ : JJ S S2 T B m) (hB : 0 ≤ B ∧ B ≤ 199000) (hm : m ≤ 511) (x1 : Int32) : ∃ (r : Int32) (S1 S3 T1 : St), CtI l D cc yX11_value cX11_value 2 .int 0 [.ref h, .int x1] (CW cc h ad a2 S S2) r (CW cc h ad a2 S1 S3) ∧ CtI l D cc yX12_value cX12_value 2 .int 0 [.ref (am 0), .int x1] (MW cc am T) r (MW cc am T1) ∧ JJ S1 S3 T1 (B + 300) (m + 1) := by
  exact ⟨_, S, S2, T, c_X11_value l D cc h ad a2 S S2 x1, (c_X12_value l D cc am T x1).eqr (op_value hJ.1 S2 x1), hJ.up⟩
theorem st_breakAt (l : Launch) (D : va_G) (cc : Nat → ClassId) (h : Nat) (ad a2 am : Nat → Nat) {S S2 T : St} {B : Int} {m : Nat} (hJ : JJ S S2 T B m) (hB : 0 ≤ B ∧ B ≤ 199000) (hm : m ≤ 511) : ∃ (r : Int32) (S1 S3 T1 : St), CtI l D cc yX11_breakAt cX11_breakAt 1 .int 0 [.ref h] (CW cc h ad a2 S S2) r (CW cc h ad a2 S1 S3) ∧ CtI l D cc yX12_breakAt cX12_breakAt 1 .int 0 [.ref (am 0)] (MW cc am T) r (MW cc am T1) ∧ JJ S1 S3 T1 (B + 300) (m + 1) := by
  exact ⟨_, S, S2, T, c_X11_breakAt l D cc h ad a2 S S2, (c_X12_breakAt l D cc am T).eqr (op_breakAt hJ.1 S2), hJ.up⟩
theorem st_roller (l : Launch) (D : va_G) (cc : Nat → ClassId) (h : Nat) (ad a2 am : Nat → Nat) {S S2 T : St} {B : Int} {m : Nat} (hJ : JJ S S2 T B m) (hB : 0 ≤ B ∧ B ≤ 199000) (hm : m ≤ 511) (x1 : Int32) (x2 : Int32) : ∃ (r : Int64) (S1 S3 T1 : St), CtL l D cc yX11_roller cX11_roller 3 4 [.ref h, .int x1, .int x2] (CW cc h ad a2 S S2) r (CW cc h ad a2 S1 S3) ∧ CtL l D cc yX12_roller cX12_roller 3 3 [.ref (am 0), .int x1, .int x2] (MW cc am T) r (MW cc am T1) ∧ JJ S1 S3 T1 (B + 300) (m + 1) := by
  rcases roller_split hJ.1 x1 with ⟨r, rfl, h2⟩ | ⟨n1, n2⟩
  · exact ⟨_, S, S2, T, c_X11_roller l D cc h ad a2 S S2 r x2 hJ.1.1 h2, (c_X12_roller l D cc am T r x2 (hJ.invM hm) (by rw [hJ.1.cN_T]; exact h2)).eqr (op_roller hJ.1 (by omega) S2 r h2 x2), hJ.up⟩
  · exact ⟨_, S, S2, T, c_X11_roller_no l D cc h ad a2 S S2 x1 x2 n1, (c_X12_roller_no l D cc am T x1 x2 n2).eqr rfl, hJ.up⟩
theorem st_web (l : Launch) (D : va_G) (cc : Nat → ClassId) (h : Nat) (ad a2 am : Nat → Nat) {S S2 T : St} {B : Int} {m : Nat} (hJ : JJ S S2 T B m) (hB : 0 ≤ B ∧ B ≤ 199000) (hm : m ≤ 511) (x1 : Int32) : ∃ (r : Int64) (S1 S3 T1 : St), CtL l D cc yX11_web cX11_web 2 1 [.ref h, .int x1] (CW cc h ad a2 S S2) r (CW cc h ad a2 S1 S3) ∧ CtL l D cc yX12_web cX12_web 5 1 [.ref (am 0), .int x1] (MW cc am T) r (MW cc am T1) ∧ JJ S1 S3 T1 (B + 300) (m + 1) := by
  exact ⟨_, S, S2, T, c_X11_web l D cc h ad a2 S S2 x1 hJ.1.1, (c_X12_web l D cc am T x1 (hJ.invM hm)).eqr (op_web hJ.1 (by omega) S2 x1), hJ.up⟩
theorem st_markDistance (l : Launch) (D : va_G) (cc : Nat → ClassId) (h : Nat) (ad a2 am : Nat → Nat) {S S2 T : St} {B : Int} {m : Nat} (hJ : JJ S S2 T B m) (hB : 0 ≤ B ∧ B ≤ 199000) (hm : m ≤ 511) (x1 : Int32) : ∃ (r : Int64) (S1 S3 T1 : St), CtL l D cc yX11_markDistance cX11_markDistance 2 1 [.ref h, .int x1] (CW cc h ad a2 S S2) r (CW cc h ad a2 S1 S3) ∧ CtL l D cc yX12_markDistance cX12_markDistance 2 1 [.ref (am 0), .int x1] (MW cc am T) r (MW cc am T1) ∧ JJ S1 S3 T1 (B + 300) (m + 1) := by
  have f := (relM_facts hJ.1.1 hJ.1.2.1 (Nat.le_trans hJ.1.2.2.2.2 (by omega))).2.2.2.1
  rcases mark_split hJ.1 (by omega) x1 with ⟨j, rfl, hj⟩ | ⟨n1, n2⟩
  · exact ⟨_, S, S2, T, c_X11_markDistance l D cc h ad a2 S S2 j hJ.1.1 hj, (c_X12_markDistance l D cc am T j (hJ.invM hm) (by rw [f]; exact hj)).eqr (op_markDistance hJ.1 (by omega) (by omega) S2 j hj), hJ.up⟩
  · exact ⟨_, S, S2, T, c_X11_markDistance_no l D cc h ad a2 S S2 x1 hJ.1.1 n1, (c_X12_markDistance_no l D cc am T x1 (hJ.invM hm) n2).eqr rfl, hJ.up⟩
theorem st_slackSpans (l : Launch) (D : va_G) (cc : Nat → ClassId) (h : Nat) (ad a2 am : Nat → Nat) {S S2 T : St} {B : Int} {m : Nat} (hJ : JJ S S2 T B m) (hB : 0 ≤ B ∧ B ≤ 199000) (hm : m ≤ 511) : ∃ (r : Int32) (S1 S3 T1 : St), CtI l D cc yX11_slackSpans cX11_slackSpans 3 .int 0 [.ref h] (CW cc h ad a2 S S2) r (CW cc h ad a2 S1 S3) ∧ CtI l D cc yX12_slackSpans cX12_slackSpans 3 .int 0 [.ref (am 0)] (MW cc am T) r (MW cc am T1) ∧ JJ S1 S3 T1 (B + 300) (m + 1) := by
  exact ⟨_, S, S2, T, c_X11_slackSpans l D cc h ad a2 S S2 hJ.1.1, (c_X12_slackSpans l D cc am T (hJ.invM hm)).eqr (op_slackSpans hJ.1 (by omega) S2), hJ.up⟩
theorem st_event (l : Launch) (D : va_G) (cc : Nat → ClassId) (h : Nat) (ad a2 am : Nat → Nat) {S S2 T : St} {B : Int} {m : Nat} (hJ : JJ S S2 T B m) (hB : 0 ≤ B ∧ B ≤ 199000) (hm : m ≤ 511) (x1 : Int32) (x2 : Int32) : ∃ (r : Int32) (S1 S3 T1 : St), CtI l D cc yX11_event cX11_event 4 .int 2 [.ref h, .int x1, .int x2] (CW cc h ad a2 S S2) r (CW cc h ad a2 S1 S3) ∧ CtI l D cc yX12_event cX12_event 3 .int 1 [.ref (am 0), .int x1, .int x2] (MW cc am T) r (MW cc am T1) ∧ JJ S1 S3 T1 (B + 300) (m + 1) := by
  have f := (relM_facts hJ.1.1 hJ.1.2.1 (Nat.le_trans hJ.1.2.2.2.2 (by omega))).2.2.2.2
  rcases event_split hJ.1 (by omega) x1 with ⟨j, rfl, hj⟩ | ⟨n1, n2⟩
  · rcases which_split x2 with ⟨w, rfl, hw⟩ | ⟨w1, w2⟩
    · exact ⟨_, S, S2, T, c_X11_event l D cc h ad a2 S S2 j (nI w) hJ.1.1 hj, (c_X12_event l D cc am T j w (hJ.invM hm) (by rw [f]; exact hj) hw).eqr (op_event hJ.1 S2 j hj w hw), hJ.up⟩
    · exact ⟨_, S, S2, T, c_X11_event l D cc h ad a2 S S2 j x2 hJ.1.1 hj, (c_X12_event_w l D cc am T (nI j) x2 w2).eqr (op_event_w j x2 T (nI j) w1), hJ.up⟩
  · exact ⟨_, S, S2, T, c_X11_event_no l D cc h ad a2 S S2 x1 x2 hJ.1.1 n1, (c_X12_event_no l D cc am T x1 x2 (hJ.invM hm) n2).eqr (op_event_no S T S2 x1 x2), hJ.up⟩
theorem st_forecast (l : Launch) (D : va_G) (cc : Nat → ClassId) (h : Nat) (ad a2 am : Nat → Nat) {S S2 T : St} {B : Int} {m : Nat} (hJ : JJ S S2 T B m) (hB : 0 ≤ B ∧ B ≤ 199000) (hm : m ≤ 511) (x1 : Int32) (x2 : Int32) : ∃ (r : Int64) (S1 S3 T1 : St), CtL l D cc yX11_forecast cX11_forecast 6 6 [.ref h, .int x1, .int x2] (CW cc h ad a2 S S2) r (CW cc h ad a2 S1 S3) ∧ CtL l D cc yX12_forecast cX12_forecast 8 5 [.ref (am 0), .int x1, .int x2] (MW cc am T) r (MW cc am T1) ∧ JJ S1 S3 T1 (B + 300) (m + 1) := by
  rcases span_split hJ.1 x1 with ⟨j, rfl, hj, hj2⟩ | ⟨n1, n2⟩
  · rcases tick_split x2 with ⟨t, rfl, h1, h2, h3⟩ | ⟨w1, w2⟩
    · obtain ⟨e, j1, o⟩ := op_forecast hJ.1 S2 j hj t (by omega) (by omega)
      exact ⟨_, S, _, _, c_X11_forecast l D cc h ad a2 S S2 j t hJ.1.1 hJ.2.2 hj h2 h3, (c_X12_forecast l D cc am T j t (hJ.invM hm) (by rw [hJ.1.cN_T]; exact hj) h1 h2 (hJ.1.span j hj).2.2 o).eqr e, j1.mono (by omega) (by omega), hJ.2.1, inv_forecast hJ.1.1 hJ.2.2 j t⟩
    · exact ⟨_, S, S2, T, c_X11_forecast_no l D cc h ad a2 S S2 (nI j) x2 (Or.inr w1), (c_X12_forecast_no l D cc am T j x2 ⟨hj2, w2⟩).eqr rfl, hJ.up⟩
  · exact ⟨_, S, S2, T, c_X11_forecast_no l D cc h ad a2 S S2 x1 x2 (Or.inl n1), (c_X12_forecast_ns l D cc am T x1 x2 n2).eqr rfl, hJ.up⟩
theorem st_outlook (l : Launch) (D : va_G) (cc : Nat → ClassId) (h : Nat) (ad a2 am : Nat → Nat) {S S2 T : St} {B : Int} {m : Nat} (hJ : JJ S S2 T B m) (hB : 0 ≤ B ∧ B ≤ 199000) (hm : m ≤ 511) (x1 : Int32) : ∃ (r : Int32) (S1 S3 T1 : St), CtI l D cc yX11_outlook cX11_outlook 3 .int 6 [.ref h, .int x1] (CW cc h ad a2 S S2) r (CW cc h ad a2 S1 S3) ∧ CtI l D cc yX12_outlook cX12_outlook 4 .int 5 [.ref (am 0), .int x1] (MW cc am T) r (MW cc am T1) ∧ JJ S1 S3 T1 (B + 300) (m + 1) := by
  rcases tick_split x1 with ⟨t, rfl, h1, h2, h3⟩ | ⟨n1, n2⟩
  · obtain ⟨e, j1, o⟩ := op_outlook hJ.1 S2 t (by omega) (by omega)
    exact ⟨_, S, _, _, c_X11_outlook l D cc h ad a2 S S2 t hJ.1.1 hJ.2.2 h2 h3, (c_X12_outlook l D cc am T t (hJ.invM hm) h1 h2 o).eqr e, j1.mono (by omega) (by omega), hJ.2.1, inv_outlook hJ.1.1 hJ.2.2 t⟩
  · exact ⟨_, S, S2, T, c_X11_outlook_no l D cc h ad a2 S S2 x1 n1, (c_X12_outlook_no l D cc am T x1 n2).eqr rfl, hJ.up⟩
