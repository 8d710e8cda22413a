/-! ===== what every contract here is said in: the words that keep, the nest words, a world, a contract, a call ===== -/
def GW : List Cond := lw_tbl.filter goodWord
theorem GW_of {i : Nat} {w : Cond} (h : tables_1[i]? = some w) (hg : goodWord w = true) : w ∈ GW := List.mem_filter.mpr ⟨List.mem_append_right _ (List.mem_of_getElem? h), hg⟩
theorem GW_sel {y : MethodName} {n : Nat} (h : (y, n) ∈ lw_privs) : Cond.selects y.cls y y ∈ GW := List.mem_filter.mpr ⟨List.mem_append_left _ (List.mem_map.mpr ⟨(y, n), h, rfl⟩), rfl⟩
theorem GW_good : ∀ w ∈ GW, goodWord w = true := fun _ h => (List.mem_filter.mp h).2
theorem GW_in : ∀ w ∈ GW, w ∈ lw_tbl := fun _ h => (List.mem_filter.mp h).1
theorem GW_map {ws : List Cond} (ps : List Nat) (h : ws.map some = ps.map (fun i => tables_1[i]?)) (hg : ws.all goodWord = true) : ∀ w ∈ ws, w ∈ GW := by
  intro w hw
  have h1 : some w ∈ ws.map some := List.mem_map.mpr ⟨w, hw, rfl⟩
  rw [h] at h1
  obtain ⟨i, -, hi⟩ := List.mem_map.mp h1
  exact GW_of hi (List.all_eq_true.mp hg w hw)
abbrev wds (y : MethodName) (b : ByteArray) (L : Nat) (rt : Option FieldType) : List Cond := Cond.code y b L rt :: GW
theorem good_wds {y : MethodName} {b : ByteArray} {L : Nat} {rt : Option FieldType} (h : Cond.code y b L rt ∈ GW) : GoodIn GW (wds y b L rt) := by
  intro w hw
  rcases List.mem_cons.mp hw with rfl | hw
  · exact ⟨h, good_of_word (GW_good _ h)⟩
  · exact ⟨hw, good_of_word (GW_good _ hw)⟩
def nestB : Cond → Bool
  | .fieldLinkNest _ _ _ _ _ _ => true
  | .methodLinkNest _ _ _ _ => true
  | _ => false
def nestWs : List Cond := [Cond.methodLinkNest "WebTensionLine" (11 : Nat) ({ cls := "WebTensionLine$Line", name := "<init>", desc := "()V" }) "WebTensionLine",
  Cond.methodLinkNest "WebTensionLine$Line" (11 : Nat) ({ cls := "WebTensionLine$Web", name := "<init>", desc := "()V" }) "WebTensionLine",
  Cond.fieldLinkNest "WebTensionLine$Line" (204 : Nat) "WebTensionLine$Web" "stiffness" "I" "WebTensionLine",
  Cond.fieldLinkNest "WebTensionLine" (173 : Nat) "WebTensionLine$Web" "stiffness" "I" "WebTensionLine",
  Cond.fieldLinkNest "WebTensionLine$Line" (207 : Nat) "WebTensionLine$Web" "wound" "I" "WebTensionLine",
  Cond.methodLinkNest "WebTensionLine$Line" (20 : Nat) ({ cls := "WebTensionLine$Drive", name := "<init>", desc := "()V" }) "WebTensionLine",
  Cond.fieldLinkNest "WebTensionLine$Line" (135 : Nat) "WebTensionLine$Drive" "base" "I" "WebTensionLine",
  Cond.fieldLinkNest "WebTensionLine" (140 : Nat) "WebTensionLine$Drive" "base" "I" "WebTensionLine",
  Cond.fieldLinkNest "WebTensionLine" (243 : Nat) "WebTensionLine$Drive" "target" "I" "WebTensionLine",
  Cond.fieldLinkNest "WebTensionLine$Line" (224 : Nat) "WebTensionLine$Drive" "spliceSpeed" "I" "WebTensionLine",
  Cond.fieldLinkNest "WebTensionLine$Line" (176 : Nat) "WebTensionLine$Drive" "trigger" "I" "WebTensionLine",
  Cond.methodLinkNest "WebTensionLine$Line" (27 : Nat) ({ cls := "WebTensionLine$Unwinder", name := "<init>", desc := "()V" }) "WebTensionLine",
  Cond.fieldLinkNest "WebTensionLine$Line" (217 : Nat) "WebTensionLine$Unwinder" "queued" "I" "WebTensionLine",
  Cond.fieldLinkNest "WebTensionLine" (158 : Nat) "WebTensionLine$Unwinder" "queued" "I" "WebTensionLine",
  Cond.fieldLinkNest "WebTensionLine$Line" (170 : Nat) "WebTensionLine$Unwinder" "remaining" "J" "WebTensionLine",
  Cond.fieldLinkNest "WebTensionLine" (215 : Nat) "WebTensionLine$Unwinder" "remaining" "J" "WebTensionLine",
  Cond.methodLinkNest "WebTensionLine$Line" (34 : Nat) ({ cls := "WebTensionLine$Rewinder", name := "<init>", desc := "()V" }) "WebTensionLine",
  Cond.fieldLinkNest "WebTensionLine" (221 : Nat) "WebTensionLine$Rewinder" "length" "J" "WebTensionLine",
  Cond.fieldLinkNest "WebTensionLine" (126 : Nat) "WebTensionLine$Rewinder" "rollLength" "I" "WebTensionLine",
  Cond.fieldLinkNest "WebTensionLine" (155 : Nat) "WebTensionLine$Rewinder" "finished" "I" "WebTensionLine",
  Cond.fieldLinkNest "WebTensionLine$Line" (240 : Nat) "WebTensionLine$Rewinder" "finished" "I" "WebTensionLine",
  Cond.methodLinkNest "WebTensionLine$Line" (41 : Nat) ({ cls := "WebTensionLine$Marks", name := "<init>", desc := "()V" }) "WebTensionLine",
  Cond.fieldLinkNest "WebTensionLine" (223 : Nat) "WebTensionLine$Marks" "places" "[J" "WebTensionLine",
  Cond.fieldLinkNest "WebTensionLine" (150 : Nat) "WebTensionLine$Marks" "count" "I" "WebTensionLine",
  Cond.methodLinkNest "WebTensionLine$Line" (48 : Nat) ({ cls := "WebTensionLine$EventLog", name := "<init>", desc := "()V" }) "WebTensionLine",
  Cond.fieldLinkNest "WebTensionLine" (234 : Nat) "WebTensionLine$EventLog" "times" "[I" "WebTensionLine",
  Cond.fieldLinkNest "WebTensionLine" (238 : Nat) "WebTensionLine$EventLog" "kinds" "[I" "WebTensionLine",
  Cond.fieldLinkNest "WebTensionLine" (241 : Nat) "WebTensionLine$EventLog" "places" "[I" "WebTensionLine",
  Cond.fieldLinkNest "WebTensionLine" (165 : Nat) "WebTensionLine$EventLog" "count" "I" "WebTensionLine",
  Cond.methodLinkNest "WebTensionLine$Line" (69 : Nat) ({ cls := "WebTensionLine$Span", name := "<init>", desc := "()V" }) "WebTensionLine",
  Cond.methodLinkNest "WebTensionLine$Span" (11 : Nat) ({ cls := "WebTensionLine$Dancer", name := "<init>", desc := "()V" }) "WebTensionLine",
  Cond.fieldLinkNest "WebTensionLine$Span" (58 : Nat) "WebTensionLine$Dancer" "position" "I" "WebTensionLine",
  Cond.fieldLinkNest "WebTensionLine" (200 : Nat) "WebTensionLine$Dancer" "position" "I" "WebTensionLine",
  Cond.fieldLinkNest "WebTensionLine" (203 : Nat) "WebTensionLine$Dancer" "sum" "I" "WebTensionLine",
  Cond.methodLinkNest "WebTensionLine$Span" (20 : Nat) ({ cls := "WebTensionLine$LoadCell", name := "<init>", desc := "()V" }) "WebTensionLine",
  Cond.fieldLinkNest "WebTensionLine" (51 : Nat) "WebTensionLine$Span" "dancer" "LWebTensionLine$Dancer;" "WebTensionLine",
  Cond.fieldLinkNest "WebTensionLine$Line" (249 : Nat) "WebTensionLine$Span" "dancer" "LWebTensionLine$Dancer;" "WebTensionLine",
  Cond.fieldLinkNest "WebTensionLine" (65 : Nat) "WebTensionLine$Span" "cell" "LWebTensionLine$LoadCell;" "WebTensionLine",
  Cond.fieldLinkNest "WebTensionLine$Line" (261 : Nat) "WebTensionLine$Span" "cell" "LWebTensionLine$LoadCell;" "WebTensionLine",
  Cond.fieldLinkNest "WebTensionLine$Line" (246 : Nat) "WebTensionLine$Span" "controller" "I" "WebTensionLine",
  Cond.fieldLinkNest "WebTensionLine" (197 : Nat) "WebTensionLine$Span" "controller" "I" "WebTensionLine",
  Cond.fieldLinkNest "WebTensionLine$Line" (159 : Nat) "WebTensionLine$Span" "material" "J" "WebTensionLine",
  Cond.fieldLinkNest "WebTensionLine" (180 : Nat) "WebTensionLine$Span" "material" "J" "WebTensionLine",
  Cond.fieldLinkNest "WebTensionLine" (188 : Nat) "WebTensionLine$Span" "greatestTension" "J" "WebTensionLine",
  Cond.fieldLinkNest "WebTensionLine$Line" (274 : Nat) "WebTensionLine$Span" "greatestTension" "J" "WebTensionLine",
  Cond.fieldLinkNest "WebTensionLine" (191 : Nat) "WebTensionLine$Span" "slackCount" "I" "WebTensionLine",
  Cond.fieldLinkNest "WebTensionLine$Line" (287 : Nat) "WebTensionLine$Span" "slackCount" "I" "WebTensionLine",
  Cond.methodLinkNest "WebTensionLine$Line" (70 : Nat) ({ cls := "WebTensionLine$Roller", name := "<init>", desc := "()V" }) "WebTensionLine",
  Cond.fieldLinkNest "WebTensionLine$Line" (155 : Nat) "WebTensionLine$Roller" "passage" "J" "WebTensionLine",
  Cond.fieldLinkNest "WebTensionLine" (206 : Nat) "WebTensionLine$Roller" "passage" "J" "WebTensionLine",
  Cond.fieldLinkNest "WebTensionLine$Line" (128 : Nat) "WebTensionLine$Roller" "draw" "I" "WebTensionLine",
  Cond.fieldLinkNest "WebTensionLine" (94 : Nat) "WebTensionLine$Roller" "draw" "I" "WebTensionLine",
  Cond.fieldLinkNest "WebTensionLine$Line" (146 : Nat) "WebTensionLine$Roller" "trim" "I" "WebTensionLine",
  Cond.fieldLinkNest "WebTensionLine" (212 : Nat) "WebTensionLine$Roller" "trim" "I" "WebTensionLine",
  Cond.methodLinkNest "WebTensionLine$Line" (76 : Nat) ({ cls := "WebTensionLine$Web", name := "begin", desc := "()V" }) "WebTensionLine",
  Cond.methodLinkNest "WebTensionLine$Line" (78 : Nat) ({ cls := "WebTensionLine$Drive", name := "begin", desc := "()V" }) "WebTensionLine",
  Cond.methodLinkNest "WebTensionLine$Line" (79 : Nat) ({ cls := "WebTensionLine$Unwinder", name := "begin", desc := "()V" }) "WebTensionLine",
  Cond.methodLinkNest "WebTensionLine$Line" (80 : Nat) ({ cls := "WebTensionLine$Rewinder", name := "begin", desc := "()V" }) "WebTensionLine",
  Cond.methodLinkNest "WebTensionLine$Line" (81 : Nat) ({ cls := "WebTensionLine$Marks", name := "clearAll", desc := "()V" }) "WebTensionLine",
  Cond.methodLinkNest "WebTensionLine$Line" (84 : Nat) ({ cls := "WebTensionLine$EventLog", name := "begin", desc := "()V" }) "WebTensionLine",
  Cond.methodLinkNest "WebTensionLine$Line" (85 : Nat) ({ cls := "WebTensionLine$Roller", name := "begin", desc := "()V" }) "WebTensionLine",
  Cond.methodLinkNest "WebTensionLine$Line" (105 : Nat) ({ cls := "WebTensionLine$Span", name := "begin", desc := "(I)V" }) "WebTensionLine",
  Cond.fieldLinkNest "WebTensionLine" (74 : Nat) "WebTensionLine$Line" "web" "LWebTensionLine$Web;" "WebTensionLine",
  Cond.fieldLinkNest "WebTensionLine" (99 : Nat) "WebTensionLine$Line" "drive" "LWebTensionLine$Drive;" "WebTensionLine",
  Cond.fieldLinkNest "WebTensionLine" (113 : Nat) "WebTensionLine$Line" "unwinder" "LWebTensionLine$Unwinder;" "WebTensionLine",
  Cond.fieldLinkNest "WebTensionLine" (122 : Nat) "WebTensionLine$Line" "rewinder" "LWebTensionLine$Rewinder;" "WebTensionLine",
  Cond.fieldLinkNest "WebTensionLine" (146 : Nat) "WebTensionLine$Line" "marks" "LWebTensionLine$Marks;" "WebTensionLine",
  Cond.fieldLinkNest "WebTensionLine" (161 : Nat) "WebTensionLine$Line" "log" "LWebTensionLine$EventLog;" "WebTensionLine",
  Cond.fieldLinkNest "WebTensionLine" (47 : Nat) "WebTensionLine$Line" "spans" "[LWebTensionLine$Span;" "WebTensionLine",
  Cond.fieldLinkNest "WebTensionLine" (90 : Nat) "WebTensionLine$Line" "rollers" "[LWebTensionLine$Roller;" "WebTensionLine",
  Cond.fieldLinkNest "WebTensionLine" (143 : Nat) "WebTensionLine$Line" "spanCount" "I" "WebTensionLine",
  Cond.fieldLinkNest "WebTensionLine" (28 : Nat) "WebTensionLine$Line" "time" "I" "WebTensionLine",
  Cond.fieldLinkNest "WebTensionLine" (134 : Nat) "WebTensionLine$Line" "state" "I" "WebTensionLine",
  Cond.fieldLinkNest "WebTensionLine" (168 : Nat) "WebTensionLine$Line" "breakPlace" "I" "WebTensionLine",
  Cond.methodLinkNest "WebTensionLine" (32 : Nat) ({ cls := "WebTensionLine$Line", name := "begin", desc := "(I)V" }) "WebTensionLine",
  Cond.methodLinkNest "WebTensionLine" (37 : Nat) ({ cls := "WebTensionLine$Line", name := "append", desc := "(I)I" }) "WebTensionLine",
  Cond.methodLinkNest "WebTensionLine" (41 : Nat) ({ cls := "WebTensionLine$Line", name := "hasSpan", desc := "(I)Z" }) "WebTensionLine",
  Cond.methodLinkNest "WebTensionLine" (57 : Nat) ({ cls := "WebTensionLine$Dancer", name := "begin", desc := "(IIIII)V" }) "WebTensionLine",
  Cond.methodLinkNest "WebTensionLine" (62 : Nat) ({ cls := "WebTensionLine$Span", name := "equip", desc := "(I)I" }) "WebTensionLine",
  Cond.methodLinkNest "WebTensionLine" (69 : Nat) ({ cls := "WebTensionLine$LoadCell", name := "begin", desc := "(II)V" }) "WebTensionLine",
  Cond.methodLinkNest "WebTensionLine" (78 : Nat) ({ cls := "WebTensionLine$Web", name := "changeStiffness", desc := "(II)I" }) "WebTensionLine",
  Cond.methodLinkNest "WebTensionLine" (84 : Nat) ({ cls := "WebTensionLine$Web", name := "changeStrength", desc := "(II)I" }) "WebTensionLine",
  Cond.methodLinkNest "WebTensionLine" (87 : Nat) ({ cls := "WebTensionLine$Line", name := "hasRoller", desc := "(I)Z" }) "WebTensionLine",
  Cond.methodLinkNest "WebTensionLine" (103 : Nat) ({ cls := "WebTensionLine$Drive", name := "changeTarget", desc := "(II)I" }) "WebTensionLine",
  Cond.methodLinkNest "WebTensionLine" (109 : Nat) ({ cls := "WebTensionLine$Drive", name := "changeSplicing", desc := "(II)I" }) "WebTensionLine",
  Cond.methodLinkNest "WebTensionLine" (117 : Nat) ({ cls := "WebTensionLine$Unwinder", name := "put", desc := "(I)I" }) "WebTensionLine",
  Cond.methodLinkNest "WebTensionLine" (131 : Nat) ({ cls := "WebTensionLine$Line", name := "tick", desc := "()V" }) "WebTensionLine",
  Cond.methodLinkNest "WebTensionLine$Line" (179 : Nat) ({ cls := "WebTensionLine$Unwinder", name := "isSplicePending", desc := "(I)Z" }) "WebTensionLine",
  Cond.methodLinkNest "WebTensionLine$Line" (182 : Nat) ({ cls := "WebTensionLine$Drive", name := "approachWanted", desc := "(Z)V" }) "WebTensionLine",
  Cond.methodLinkNest "WebTensionLine$Drive" (31 : Nat) ({ cls := "WebTensionLine", name := "limit", desc := "(JJJ)J" }) "WebTensionLine",
  Cond.methodLinkNest "WebTensionLine$Line" (131 : Nat) ({ cls := "WebTensionLine", name := "drawn", desc := "(JI)J" }) "WebTensionLine",
  Cond.methodLinkNest "WebTensionLine$Line" (210 : Nat) ({ cls := "WebTensionLine", name := "quotient", desc := "(JJ)J" }) "WebTensionLine",
  Cond.methodLinkNest "WebTensionLine$Line" (213 : Nat) ({ cls := "WebTensionLine$Span", name := "length", desc := "()J" }) "WebTensionLine",
  Cond.methodLinkNest "WebTensionLine$Line" (220 : Nat) ({ cls := "WebTensionLine$EventLog", name := "add", desc := "(III)V" }) "WebTensionLine",
  Cond.methodLinkNest "WebTensionLine$Line" (230 : Nat) ({ cls := "WebTensionLine$Marks", name := "add", desc := "(J)V" }) "WebTensionLine",
  Cond.methodLinkNest "WebTensionLine$Line" (233 : Nat) ({ cls := "WebTensionLine$Unwinder", name := "takeNext", desc := "()V" }) "WebTensionLine",
  Cond.methodLinkNest "WebTensionLine$Line" (236 : Nat) ({ cls := "WebTensionLine$Rewinder", name := "takes", desc := "(J)Z" }) "WebTensionLine",
  Cond.methodLinkNest "WebTensionLine$Line" (243 : Nat) ({ cls := "WebTensionLine$Span", name := "tensionAt", desc := "(I)J" }) "WebTensionLine",
  Cond.methodLinkNest "WebTensionLine$Span" (61 : Nat) ({ cls := "WebTensionLine", name := "quotient", desc := "(JJ)J" }) "WebTensionLine",
  Cond.methodLinkNest "WebTensionLine$Line" (253 : Nat) ({ cls := "WebTensionLine$Dancer", name := "move", desc := "(J)V" }) "WebTensionLine",
  Cond.methodLinkNest "WebTensionLine$Dancer" (38 : Nat) ({ cls := "WebTensionLine", name := "quotient", desc := "(JJ)J" }) "WebTensionLine",
  Cond.methodLinkNest "WebTensionLine$Dancer" (46 : Nat) ({ cls := "WebTensionLine", name := "limit", desc := "(JJJ)J" }) "WebTensionLine",
  Cond.methodLinkNest "WebTensionLine$Line" (258 : Nat) ({ cls := "WebTensionLine$Dancer", name := "trim", desc := "()I" }) "WebTensionLine",
  Cond.methodLinkNest "WebTensionLine$Line" (265 : Nat) ({ cls := "WebTensionLine$LoadCell", name := "trimAfter", desc := "(IJ)I" }) "WebTensionLine",
  Cond.methodLinkNest "WebTensionLine$LoadCell" (30 : Nat) ({ cls := "WebTensionLine", name := "limit", desc := "(JJJ)J" }) "WebTensionLine",
  Cond.methodLinkNest "WebTensionLine$Line" (271 : Nat) ({ cls := "WebTensionLine$Marks", name := "dropUpTo", desc := "(J)V" }) "WebTensionLine",
  Cond.methodLinkNest "WebTensionLine$Line" (166 : Nat) ({ cls := "WebTensionLine$Marks", name := "countBetween", desc := "(JJ)I" }) "WebTensionLine",
  Cond.methodLinkNest "WebTensionLine$Line" (284 : Nat) ({ cls := "WebTensionLine$Web", name := "strengthWith", desc := "(I)J" }) "WebTensionLine",
  Cond.methodLinkNest "WebTensionLine" (137 : Nat) ({ cls := "WebTensionLine$Line", name := "threadAnew", desc := "()V" }) "WebTensionLine",
  Cond.methodLinkNest "WebTensionLine$Line" (173 : Nat) ({ cls := "WebTensionLine$Span", name := "threadAnew", desc := "()V" }) "WebTensionLine",
  Cond.methodLinkNest "WebTensionLine$Span" (53 : Nat) ({ cls := "WebTensionLine$Dancer", name := "centre", desc := "()V" }) "WebTensionLine",
  Cond.methodLinkNest "WebTensionLine" (176 : Nat) ({ cls := "WebTensionLine$Span", name := "tensionAt", desc := "(I)J" }) "WebTensionLine",
  Cond.methodLinkNest "WebTensionLine" (184 : Nat) ({ cls := "WebTensionLine$Span", name := "length", desc := "()J" }) "WebTensionLine",
  Cond.methodLinkNest "WebTensionLine" (194 : Nat) ({ cls := "WebTensionLine$Line", name := "marksIn", desc := "(I)I" }) "WebTensionLine",
  Cond.methodLinkNest "WebTensionLine" (209 : Nat) ({ cls := "WebTensionLine$Line", name := "speedOf", desc := "(I)J" }) "WebTensionLine",
  Cond.methodLinkNest "WebTensionLine" (218 : Nat) ({ cls := "WebTensionLine$Unwinder", name := "queuedLength", desc := "()J" }) "WebTensionLine",
  Cond.methodLinkNest "WebTensionLine" (227 : Nat) ({ cls := "WebTensionLine$Line", name := "placeAtRoller", desc := "(I)J" }) "WebTensionLine",
  Cond.methodLinkNest "WebTensionLine" (231 : Nat) ({ cls := "WebTensionLine$EventLog", name := "slotOf", desc := "(I)I" }) "WebTensionLine",
  Cond.methodLinkNest "WebTensionLine" (246 : Nat) ({ cls := "WebTensionLine$Line", name := "nominalSpeed", desc := "(II)J" }) "WebTensionLine",
  Cond.methodLinkNest "WebTensionLine" (250 : Nat) ({ cls := "WebTensionLine$Web", name := "steadyTensionAt", desc := "(JJ)J" }) "WebTensionLine",
  Cond.methodLinkNest "WebTensionLine$Web" (33 : Nat) ({ cls := "WebTensionLine", name := "quotient", desc := "(JJ)J" }) "WebTensionLine",
  Cond.methodLinkNest "WebTensionLine" (258 : Nat) ({ cls := "WebTensionLine$Web", name := "steadyGap", desc := "(IJJ)J" }) "WebTensionLine",
  Cond.methodLinkNest "WebTensionLine" (262 : Nat) ({ cls := "WebTensionLine$Line", name := "copyFrom", desc := "(LWebTensionLine$Line;)V" }) "WebTensionLine",
  Cond.methodLinkNest "WebTensionLine$Line" (106 : Nat) ({ cls := "WebTensionLine$Web", name := "copyFrom", desc := "(LWebTensionLine$Web;)V" }) "WebTensionLine",
  Cond.methodLinkNest "WebTensionLine$Line" (110 : Nat) ({ cls := "WebTensionLine$Drive", name := "copyFrom", desc := "(LWebTensionLine$Drive;)V" }) "WebTensionLine",
  Cond.methodLinkNest "WebTensionLine$Line" (113 : Nat) ({ cls := "WebTensionLine$Unwinder", name := "copyFrom", desc := "(LWebTensionLine$Unwinder;)V" }) "WebTensionLine",
  Cond.methodLinkNest "WebTensionLine$Line" (116 : Nat) ({ cls := "WebTensionLine$Rewinder", name := "copyFrom", desc := "(LWebTensionLine$Rewinder;)V" }) "WebTensionLine",
  Cond.methodLinkNest "WebTensionLine$Line" (119 : Nat) ({ cls := "WebTensionLine$Marks", name := "copyFrom", desc := "(LWebTensionLine$Marks;)V" }) "WebTensionLine",
  Cond.methodLinkNest "WebTensionLine$Line" (122 : Nat) ({ cls := "WebTensionLine$Roller", name := "copyFrom", desc := "(LWebTensionLine$Roller;)V" }) "WebTensionLine",
  Cond.methodLinkNest "WebTensionLine$Line" (125 : Nat) ({ cls := "WebTensionLine$Span", name := "copyFrom", desc := "(LWebTensionLine$Span;)V" }) "WebTensionLine",
  Cond.methodLinkNest "WebTensionLine$Span" (42 : Nat) ({ cls := "WebTensionLine$Dancer", name := "copyFrom", desc := "(LWebTensionLine$Dancer;)V" }) "WebTensionLine",
  Cond.methodLinkNest "WebTensionLine$Span" (46 : Nat) ({ cls := "WebTensionLine$LoadCell", name := "copyFrom", desc := "(LWebTensionLine$LoadCell;)V" }) "WebTensionLine"]
theorem nestWs_ok : nestWs.all nestB = true := by decide +kernel
def NW (U : State) : Prop := ∀ w ∈ nestWs, va_Nw w U
theorem NW.warm {s U : State} (hW : s.WarmedH U.vm) (h : NW s) : NW U := by
  intro w hw
  have hb := List.all_eq_true.mp nestWs_ok w hw
  have h1 := h w hw
  match w, hb, h1 with
  | .fieldLinkNest _ _ _ _ _ _, _, h1 => exact va_Nw.warmF hW h1
  | .methodLinkNest _ _ _ _, _, h1 => exact va_Nw.warmM hW h1
theorem nest_tab {w : Cond} (hw : w ∈ nestWs) : w.onTables = true := by
  have hb := List.all_eq_true.mp nestWs_ok w hw
  match w, hb with
  | .fieldLinkNest _ _ _ _ _ _, _ => rfl
  | .methodLinkNest _ _ _ _, _ => rfl
theorem NW.same {u U : State} (h : u.vm = U.vm) (hN : NW u) : NW U := fun w hw => va_Nw.same (nest_tab hw) h (hN w hw)
theorem NW.use {s : State} (h : NW s) {w : Cond} (hw : w ∈ nestWs) (args : Array Value) : w.before args s = true := va_Nw.use (nest_tab hw) (h w hw)
abbrev tyL (cc : Nat → ClassId) : List (ClassId × FieldType) := [(cc 0, .int), (cc 1, .long), (cc 2, .object RX7), (cc 3, .object RX8)]
def rmD (d : Nat) : Room := { frames := d, cells := 0, slots := 0, locals := 36 * d }
def PreB (D : va_G) (cc : Nat → ClassId) (ws : va_W) (sz : Nat) (U : State) : Prop := U.heap.size = sz ∧ va_P D vwCl ws U.heap ∧ va_K D vwCl (tyL cc) U ∧ va_D (fun _ => True) ws ∧ NW U
def PostB (D : va_G) (cc : Nat → ClassId) (ws ws' : va_W) (sz : Nat) (_ : Unit) (t : State) : Prop := va_P D vwCl ws' t.heap ∧ va_K D vwCl (tyL cc) t ∧ va_D (va_A ws sz) ws'
theorem pre_blind {D : va_G} {cc : Nat → ClassId} {ws : va_W} {sz : Nat} {av : List Value} : FrameBlind (va_Pc av (PreB D cc ws sz)) := by
  intro a U g mk h
  obtain ⟨h0, h1, h2, h3, h4, h5⟩ := h
  exact ⟨h0, h1, h2, va_K.moved (u := U) (U := U.calling g mk a) (Vm.Alike.refl U.vm) h3, h4, NW.same (u := U) (U := U.calling g mk a) rfl h5⟩
/-- contracts: with these arguments and this world the method answers r (an int, a long, nothing), and the world is ws' -/
def CtI (l : Launch) (D : va_G) (cc : Nat → ClassId) (y : MethodName) (b : ByteArray) (L : Nat) (rt : FieldType) (d : Nat) (av : List Value) (ws : va_W) (r : Int32) (ws' : va_W) : Prop :=
  ∀ sz : Nat, Met l y (wds y b L (some rt)) (rmD d) (va_Pc av (PreB D cc ws sz)) (va_Qi (fun (r' : Int32) (_ : Unit) => r' = r) (PostB D cc ws ws' sz) (va_A ws sz)) 0 0 (va_A ws sz)
def CtL (l : Launch) (D : va_G) (cc : Nat → ClassId) (y : MethodName) (b : ByteArray) (L : Nat) (d : Nat) (av : List Value) (ws : va_W) (r : Int64) (ws' : va_W) : Prop :=
  ∀ sz : Nat, Met l y (wds y b L (some .long)) (rmD d) (va_Pc av (PreB D cc ws sz)) (va_Ql (fun (r' : Int64) (_ : Unit) => r' = r) (PostB D cc ws ws' sz) (va_A ws sz)) 0 0 (va_A ws sz)
def CtV (l : Launch) (D : va_G) (cc : Nat → ClassId) (y : MethodName) (b : ByteArray) (L : Nat) (d : Nat) (av : List Value) (ws : va_W) (ws' : va_W) : Prop :=
  ∀ sz : Nat, Met l y (wds y b L none) (rmD d) (va_Pc av (PreB D cc ws sz)) (va_Qv (fun (_ : Unit) => True) (PostB D cc ws ws' sz) (va_A ws sz)) 0 0 (va_A ws sz)
/-- a method's own facts; a world in the middle of a method -/
abbrev Cx (p : Program) (m : MethodId) (c : Code) (b : ByteArray) (nL : Nat) (s : State) (args : Array Value) (own : String) : Prop := CallFix p m c b nL s args GW own ∧ NW s
def Wd (D : va_G) (cc : Nat → ClassId) (ws : va_W) (A : Nat → Prop) (H0 H : Heap) (locs : List Loc) (s : State) : Prop := va_P D vwCl ws H ∧ va_K D vwCl (tyL cc) s ∧ va_D A ws ∧ va_S A H0 H locs ∧ ∀ q : Nat, H0.size ≤ q → A q
section KitF
variable {p : Program} {l : Launch} {e : Env} {R : Room} {s : State} {m : MethodId} {args : Array Value} {below : List Frame} {meth : Method} {c : Code} {H : Heap} {locs : List Loc} {cells slots : Nat} {Q : State → Prop}
/-- as the kit's row of that kind, for a method that no native row stands for, whatever its class -/
theorem w_metF {y : MethodName} {ws ws' : List Cond} {rm : Room} {Pc : Array Value → State → Prop} {Qc : Array Value → State → Outcome → State → Prop} {mc ms : Nat} {free : Addr → Prop} {cc : ByteArray} {maxL : Nat} {ret : Option FieldType}
    (hy : plainFor y = true) (hw : ws = Cond.code y cc maxL ret :: ws')
    (body : ∀ p e s m args below meth c s₁, BodyLoose p l y (headSpec ws rm) cc maxL ret e s m args below meth c s₁ → c.maxLocals = maxL → Pc args s →
      W p l e (headSpec ws rm).room s m args below meth c s.heap [] 0 0 (MQ below Qc args s mc ms free) (entryFrame m args maxL)) : Met l y ws rm Pc Qc mc ms free := by
  refine MetFree.of_bodySF (code := cc) (maxLocals := maxL) (ret := ret) hy ?_ ?_
  · intro args s m h hn
    obtain ⟨meth, c, h1, h2, h3, h4, h5, h6, -, -⟩ := Cond.code_spec hn (atoms_spec (ws := ws) h _ (by rw [hw]; exact List.mem_cons_self))
    exact ⟨meth, c, h1, h2, h3, h4, h5, h6⟩
  · intro p e s m args below meth c s₁ B hml hP _
    have hh0 : s₁.heap = s.heap := by rw [B.state]; rfl
    obtain ⟨t, a1, o, b1, b2, b3⟩ := body p e s m args below meth c s₁ B hml hP s₁ hh0 (Stand.of_body B)
    exact ⟨t, o, a1, b1, b2, ⟨b3.1, b3.2⟩⟩
end KitF
section KitA
variable {l : Launch} {D : va_G} {cc : Nat → ClassId} {y : MethodName} {b : ByteArray} {L d : Nat} {rt : FieldType} {av : List Value} {ws ws' : va_W}
set_option maxHeartbeats 1000000 in
theorem CtI.of {r : Int32} (hy : plainFor y = true) (hn : narrow rt (.int r) = .int r) (hargs : (lg_sl av).length ≤ L)
    (body : ∀ (p : Program) (e : Env) (s : State) (m : MethodId) (args : Array Value) (below : List Frame) (meth : Method) (c : Code) (A : Nat → Prop) (Q : State → Prop), Cx p m c b L s args y.cls → Wd D cc ws A s.heap s.heap [] s →
      (∀ (H : Heap) (locs : List Loc) (pc : Nat) (ls : Array Slot) (r' : Int32) (wx : va_W), r' = r → wx = ws' → Wd D cc wx A s.heap H locs s → decode b pc = .ok (.ireturn, 1) → W p l e (rmD d) s m args below meth c H locs 0 0 Q (F0 m pc ls [.int r'])) →
      ∀ ls : Array Slot, lv_has ls L (lv_args 0 av) → W p l e (rmD d) s m args below meth c s.heap [] 0 0 Q (F0 m 0 ls [])) :
    CtI l D cc y b L rt d av ws r ws' := by
  intro sz
  refine w_metF (cc := b) (maxL := L) (ret := some rt) hy rfl ?_
  intro p e s m args below meth c s₁ B hml hv
  obtain ⟨rfl, hsz, hP, hK, hD0, hN⟩ := hv
  have hx := B.exec
  have hb := B.bytes
  have hr := B.returns
  have hts := atoms_spec (ws := wds y b L (some rt)) B.pre
  have hown : s.vm.findClass y.cls = some m.cls := findClass_of_methodNamed B.named
  have hlocks := B.notSynchronized
  subst hsz
  have hD := hD0.self (sz := s.heap.size)
  generalize hAe : va_A ws s.heap.size = A at hD ⊢
  have hA : ∀ q : Nat, s.heap.size ≤ q → A q := fun q h => by rw [← hAe]; exact Or.inr h
  have hS : va_S A s.heap s.heap [] := va_S.rf
  have hl := lv_entry av (n := L) hargs
  rw [lg_entry_eq]
  generalize (lg_sl av ++ List.replicate (L - (lg_sl av).length) Slot.unset).toArray = ls at hl ⊢
  refine body p e s m _ below meth c A _ ⟨⟨hx, hb, hml, hown, fun w hw => hts w (List.mem_cons_of_mem _ hw)⟩, hN⟩ ⟨hP, hK, hD, hS, hA⟩ ?_ ls hl
  intro H locs pc ls r' wx e1 e2 hW hdg
  subst e1
  subst e2
  obtain ⟨hP, hK, hD, hS, -⟩ := hW
  exact W.zret (v := r') hx hb hr hn (fun t ht hW => ⟨⟨r', (), rfl, rfl, by rw [ht]; exact hP, va_K.moved hW.alike hK, by rw [hAe]; exact hD⟩, hS.F ht⟩) hS.2.2 hdg
set_option maxHeartbeats 1000000 in
theorem CtL.of {r : Int64} (hy : plainFor y = true) (hargs : (lg_sl av).length ≤ L)
    (body : ∀ (p : Program) (e : Env) (s : State) (m : MethodId) (args : Array Value) (below : List Frame) (meth : Method) (c : Code) (A : Nat → Prop) (Q : State → Prop), Cx p m c b L s args y.cls → Wd D cc ws A s.heap s.heap [] s →
      (∀ (H : Heap) (locs : List Loc) (pc : Nat) (ls : Array Slot) (r' : Int64) (wx : va_W), r' = r → wx = ws' → Wd D cc wx A s.heap H locs s → decode b pc = .ok (.lreturn, 1) → W p l e (rmD d) s m args below meth c H locs 0 0 Q (F0 m pc ls [.long r'])) →
      ∀ ls : Array Slot, lv_has ls L (lv_args 0 av) → W p l e (rmD d) s m args below meth c s.heap [] 0 0 Q (F0 m 0 ls [])) :
    CtL l D cc y b L d av ws r ws' := by
  intro sz
  refine w_metF (cc := b) (maxL := L) (ret := some .long) hy rfl ?_
  intro p e s m args below meth c s₁ B hml hv
  obtain ⟨rfl, hsz, hP, hK, hD0, hN⟩ := hv
  have hx := B.exec
  have hb := B.bytes
  have hr := B.returns
  have hts := atoms_spec (ws := wds y b L (some .long)) B.pre
  have hown : s.vm.findClass y.cls = some m.cls := findClass_of_methodNamed B.named
  have hlocks := B.notSynchronized
  subst hsz
  have hD := hD0.self (sz := s.heap.size)
  generalize hAe : va_A ws s.heap.size = A at hD ⊢
  have hA : ∀ q : Nat, s.heap.size ≤ q → A q := fun q h => by rw [← hAe]; exact Or.inr h
  have hS : va_S A s.heap s.heap [] := va_S.rf
  have hl := lv_entry av (n := L) hargs
  rw [lg_entry_eq]
  generalize (lg_sl av ++ List.replicate (L - (lg_sl av).length) Slot.unset).toArray = ls at hl ⊢
  refine body p e s m _ below meth c A _ ⟨⟨hx, hb, hml, hown, fun w hw => hts w (List.mem_cons_of_mem _ hw)⟩, hN⟩ ⟨hP, hK, hD, hS, hA⟩ ?_ ls hl
  intro H locs pc ls r' wx e1 e2 hW hdg
  subst e1
  subst e2
  obtain ⟨hP, hK, hD, hS, -⟩ := hW
  exact W.lret (v := r') hx hb hr (fun t ht hW => ⟨⟨r', (), rfl, rfl, by rw [ht]; exact hP, va_K.moved hW.alike hK, by rw [hAe]; exact hD⟩, hS.F ht⟩) hS.2.2 hdg
set_option maxHeartbeats 1000000 in
theorem CtV.of (hy : plainFor y = true) (hargs : (lg_sl av).length ≤ L)
    (body : ∀ (p : Program) (e : Env) (s : State) (m : MethodId) (args : Array Value) (below : List Frame) (meth : Method) (c : Code) (A : Nat → Prop) (Q : State → Prop), Cx p m c b L s args y.cls → Wd D cc ws A s.heap s.heap [] s →
      (∀ (H : Heap) (locs : List Loc) (pc : Nat) (ls : Array Slot) (wx : va_W), wx = ws' → Wd D cc wx A s.heap H locs s → decode b pc = .ok (.return_, 1) → W p l e (rmD d) s m args below meth c H locs 0 0 Q (F0 m pc ls [])) →
      ∀ ls : Array Slot, lv_has ls L (lv_args 0 av) → W p l e (rmD d) s m args below meth c s.heap [] 0 0 Q (F0 m 0 ls [])) :
    CtV l D cc y b L d av ws ws' := by
  intro sz
  refine w_metF (cc := b) (maxL := L) (ret := none) hy rfl ?_
  intro p e s m args below meth c s₁ B hml hv
  obtain ⟨rfl, hsz, hP, hK, hD0, hN⟩ := hv
  have hx := B.exec
  have hb := B.bytes
  have hr := B.returns
  have hts := atoms_spec (ws := wds y b L none) B.pre
  have hown : s.vm.findClass y.cls = some m.cls := findClass_of_methodNamed B.named
  have hlocks := B.notSynchronized
  subst hsz
  have hD := hD0.self (sz := s.heap.size)
  generalize hAe : va_A ws s.heap.size = A at hD ⊢
  have hA : ∀ q : Nat, s.heap.size ≤ q → A q := fun q h => by rw [← hAe]; exact Or.inr h
  have hS : va_S A s.heap s.heap [] := va_S.rf
  have hl := lv_entry av (n := L) hargs
  rw [lg_entry_eq]
  generalize (lg_sl av ++ List.replicate (L - (lg_sl av).length) Slot.unset).toArray = ls at hl ⊢
  refine body p e s m _ below meth c A _ ⟨⟨hx, hb, hml, hown, fun w hw => hts w (List.mem_cons_of_mem _ hw)⟩, hN⟩ ⟨hP, hK, hD, hS, hA⟩ ?_ ls hl
  intro H locs pc ls wx e2 hW hdg
  subst e2
  obtain ⟨hP, hK, hD, hS, -⟩ := hW
  exact W.vret hx hb hr (fun t ht hW => ⟨⟨(), rfl, trivial, by rw [ht]; exact hP, va_K.moved hW.alike hK, by rw [hAe]; exact hD⟩, hS.F ht⟩) hS.2.2 hdg
end KitA
/-- field k of kind ci, as the class own links it at idx -/
def Fld (ci k : Nat) (ty : FieldType) (fin : Bool) (own : String) (idx : Nat) : Prop :=
  ∃ (C : String) (T : u_T) (N : Nat) (ty0 : Nat → FieldType), vwCl[ci]? = some (C, T, N) ∧ k < N ∧ (∀ w ∈ u_ws C T N, w ∈ GW) ∧ (∀ j, j < N → parseFieldDescriptor (T j).2.2.1 = some (ty0 j)) ∧ (∀ a, a < N → ∀ b, b < N → a ≠ b → (T a).2.1 ≠ (T b).2.1) ∧ (T k).1 = C ∧ ty0 k = ty ∧ (T k).2.2.2 = fin ∧
    (Cond.fieldLink own idx C (T k).2.1 (T k).2.2.1 ∈ GW ∨ ∃ host, Cond.fieldLinkNest own idx C (T k).2.1 (T k).2.2.1 host ∈ nestWs)
/-- a method of n parameters, as the class own links it at idx -/
def MthV (own : String) (idx : Nat) (y : MethodName) (b : ByteArray) (L : Nat) (rt : Option FieldType) (n : Nat) : Prop :=
  Cond.code y b L rt ∈ GW ∧ Cond.instanceMethod y ∈ GW ∧ Cond.selects y.cls y y ∈ GW ∧ Cond.initialized y.cls ∈ GW ∧ (y.cls ≠ "java/lang/invoke/MethodHandle" ∧ y.cls ≠ "java/lang/invoke/VarHandle" ∧ (parseMethodDescriptor y.desc).map (fun d => d.parameters.length) = some n) ∧
    (Cond.methodLink own idx y ∈ GW ∨ ∃ host, Cond.methodLinkNest own idx y host ∈ nestWs)
def MthS (own : String) (idx : Nat) (y : MethodName) (b : ByteArray) (L : Nat) (rt : Option FieldType) (n : Nat) : Prop :=
  Cond.code y b L rt ∈ GW ∧ Cond.static y ∈ GW ∧ Cond.initialized y.cls ∈ GW ∧ (y.cls ≠ "java/lang/invoke/MethodHandle" ∧ y.cls ≠ "java/lang/invoke/VarHandle" ∧ (parseMethodDescriptor y.desc).map (fun d => d.parameters.length) = some n) ∧
    (Cond.methodLink own idx y ∈ GW ∨ ∃ host, Cond.methodLinkNest own idx y host ∈ nestWs)
section KitB
variable {p : Program} {l : Launch} {e : Env} {R : Room} {s : State} {m : MethodId} {args : Array Value} {below : List Frame} {meth : Method} {c : Code} {H : Heap} {locs : List Loc} {cells slots : Nat} {Q : State → Prop}
variable {b : ByteArray} {nL : Nat} {own : String} {pc : Nat} {ls : Array Slot} {rest : List Value} {D : va_G} {cc : Nat → ClassId} {A : Nat → Prop} {ws : va_W} {H0 : Heap} {a : Nat}
theorem q_get (hC : Cx p m c b nL s args own) (hW : Wd D cc ws A H0 H locs s) {ci k idx : Nat} {ty : FieldType} {fin : Bool} (hf : Fld ci k ty fin own idx) (q0 : Nat) {fs : List Value} (he : ws[q0]? = some (a, .inr (ci, fs))) {v : Value} (hv : fs[k]? = some v) (hdg : decode b pc = .ok (.getfield idx, 3))
    (kk : W p l e R s m args below meth c H locs cells slots Q (F0 m (pc + 3) ls (v :: rest))) : W p l e R s m args below meth c H locs cells slots Q (F0 m pc ls (.ref a :: rest)) := by
  obtain ⟨⟨hx, hb, hml, hown, hts⟩, hN⟩ := hC
  obtain ⟨hP, hK, hD, hS, hA⟩ := hW
  obtain ⟨C, T, N, ty0, h1, h2, h3, h4, h5, h6, h7, h8, h9⟩ := hf
  rcases h9 with h9 | ⟨host, h9⟩
  · exact va_get (D := D) hx hb hts h3 hown hK hP q0 he h1 k h2 (hts _ h9) (fun _ q => by rw [h6] at q; exact q) hv hdg kk
  · exact va_getN (D := D) hx hb hts h3 hown hK hP q0 he h1 k h2 (hN.use h9 args) (fun _ q => by rw [h6] at q; exact q) hv hdg kk
theorem q_put (hC : Cx p m c b nL s args own) (hW : Wd D cc ws A H0 H locs s) {ci k idx : Nat} {ty : FieldType} (hf : Fld ci k ty false own idx) (q0 : Nat) {fs : List Value} (he : ws[q0]? = some (a, .inr (ci, fs))) {v : Value} {w2 : va_W} (hset : ws.set q0 (a, .inr (ci, fs.set k v)) = w2) (hn : narrow ty v = v) (hfit : fits ty v = true) (hl : k < fs.length) (hdg : decode b pc = .ok (.putfield idx, 3))
    (kk : ∀ (H1 : Heap) (locs1 : List Loc), Wd D cc w2 A H0 H1 locs1 s → W p l e R s m args below meth c H1 locs1 cells slots Q (F0 m (pc + 3) ls rest)) : W p l e R s m args below meth c H locs cells slots Q (F0 m pc ls (v :: .ref a :: rest)) := by
  obtain ⟨⟨hx, hb, hml, hown, hts⟩, hN⟩ := hC
  obtain ⟨hP, hK, hD, hS, hA⟩ := hW
  obtain ⟨C, T, N, ty0, h1, h2, h3, h4, h5, h6, h7, h8, h9⟩ := hf
  subst hset
  have hd : parseFieldDescriptor (T k).2.2.1 = some ty := by rw [h4 k h2, h7]
  rcases h9 with h9 | ⟨host, h9⟩
  · exact va_put (D := D) hx hb hts h3 ty0 h4 h5 hown hK hP hD hS q0 he h1 k h2 (hts _ h9) (fun _ q => by rw [h6] at q; exact q) h8 hd hn hfit hl hdg (fun H1 locs1 a1 a2 a3 => kk H1 locs1 ⟨a1, hK, a2, a3, hA⟩)
  · exact va_putN (D := D) hx hb hts h3 ty0 h4 h5 hown hK hP hD hS q0 he h1 k h2 (hN.use h9 args) (fun _ q => by rw [h6] at q; exact q) h8 hd hn hfit hl hdg (fun H1 locs1 a1 a2 a3 => kk H1 locs1 ⟨a1, hK, a2, a3, hA⟩)
theorem q_putI (hC : Cx p m c b nL s args own) (hW : Wd D cc ws A H0 H locs s) {ci k idx : Nat} (hf : Fld ci k .int false own idx) (q0 : Nat) {fs : List Value} (he : ws[q0]? = some (a, .inr (ci, fs))) {v : Int32} {w2 : va_W} (hset : ws.set q0 (a, .inr (ci, fs.set k (.int v))) = w2) (hl : k < fs.length) (hdg : decode b pc = .ok (.putfield idx, 3))
    (kk : ∀ (H1 : Heap) (locs1 : List Loc), Wd D cc w2 A H0 H1 locs1 s → W p l e R s m args below meth c H1 locs1 cells slots Q (F0 m (pc + 3) ls rest)) : W p l e R s m args below meth c H locs cells slots Q (F0 m pc ls (.int v :: .ref a :: rest)) := q_put hC hW hf q0 he hset rfl rfl hl hdg kk
theorem q_putL (hC : Cx p m c b nL s args own) (hW : Wd D cc ws A H0 H locs s) {ci k idx : Nat} (hf : Fld ci k .long false own idx) (q0 : Nat) {fs : List Value} (he : ws[q0]? = some (a, .inr (ci, fs))) {v : Int64} {w2 : va_W} (hset : ws.set q0 (a, .inr (ci, fs.set k (.long v))) = w2) (hl : k < fs.length) (hdg : decode b pc = .ok (.putfield idx, 3))
    (kk : ∀ (H1 : Heap) (locs1 : List Loc), Wd D cc w2 A H0 H1 locs1 s → W p l e R s m args below meth c H1 locs1 cells slots Q (F0 m (pc + 3) ls rest)) : W p l e R s m args below meth c H locs cells slots Q (F0 m pc ls (.long v :: .ref a :: rest)) := q_put hC hW hf q0 he hset rfl rfl hl hdg kk
theorem q_iald (hC : Cx p m c b nL s args own) (hW : Wd D cc ws A H0 H locs s) (q0 : Nat) {n : Nat} {f : Nat → Int32} (he : ws[q0]? = some (a, .inl (cc 0, n, .inl f))) {i v : Int32} (k : Nat) (hi : i = nI k) (hk : k < n) (hn : n ≤ 1000000) (hv : f k = v) (hdg : decode b pc = .ok (.iaload, 1))
    (kk : W p l e R s m args below meth c H locs cells slots Q (F0 m (pc + 1) ls (.int v :: rest))) : W p l e R s m args below meth c H locs cells slots Q (F0 m pc ls (.int i :: .ref a :: rest)) := by
  obtain ⟨⟨hx, hb, hml, hown, hts⟩, hN⟩ := hC
  obtain ⟨hP, hK, hD, hS, hA⟩ := hW
  refine va_iald hx hb hK hP q0 0 he rfl (by rw [hi]; exact vp_in_nI hk (by omega)) hdg ?_
  rw [hi, nI_clamp (by omega), hv]
  exact kk
theorem q_lald (hC : Cx p m c b nL s args own) (hW : Wd D cc ws A H0 H locs s) (q0 : Nat) {n : Nat} {f : Nat → Int64} (he : ws[q0]? = some (a, .inl (cc 1, n, .inr (.inl f)))) {i : Int32} {v : Int64} (k : Nat) (hi : i = nI k) (hk : k < n) (hn : n ≤ 1000000) (hv : f k = v) (hdg : decode b pc = .ok (.laload, 1))
    (kk : W p l e R s m args below meth c H locs cells slots Q (F0 m (pc + 1) ls (.long v :: rest))) : W p l e R s m args below meth c H locs cells slots Q (F0 m pc ls (.int i :: .ref a :: rest)) := by
  obtain ⟨⟨hx, hb, hml, hown, hts⟩, hN⟩ := hC
  obtain ⟨hP, hK, hD, hS, hA⟩ := hW
  refine va_lald hx hb hK hP q0 1 he rfl (by rw [hi]; exact vp_in_nI hk (by omega)) hdg ?_
  rw [hi, nI_clamp (by omega), hv]
  exact kk
theorem q_aald (hC : Cx p m c b nL s args own) (hW : Wd D cc ws A H0 H locs s) (q0 t0 : Nat) {cA : ClassId} {C : String} {n : Nat} {f : Nat → Option Nat} (he : ws[q0]? = some (a, .inl (cA, n, .inr (.inr (.inr (.inr f)))))) (ht : (tyL cc)[t0]? = some (cA, .object C)) {i : Int32} {v : Nat} (k : Nat) (hi : i = nI k) (hk : k < n) (hn : n ≤ 1000000) (hv : f k = some v) (hdg : decode b pc = .ok (.aaload, 1))
    (kk : W p l e R s m args below meth c H locs cells slots Q (F0 m (pc + 1) ls (.ref v :: rest))) : W p l e R s m args below meth c H locs cells slots Q (F0 m pc ls (.int i :: .ref a :: rest)) := by
  obtain ⟨⟨hx, hb, hml, hown, hts⟩, hN⟩ := hC
  obtain ⟨hP, hK, hD, hS, hA⟩ := hW
  refine va_aldq hx hb hK hP q0 t0 he ht (by rw [hi]; exact vp_in_nI hk (by omega)) hdg ?_
  rw [hi, nI_clamp (by omega), hv]
  exact kk
theorem q_iast (hC : Cx p m c b nL s args own) (hW : Wd D cc ws A H0 H locs s) (q0 : Nat) {n : Nat} {f : Nat → Int32} (he : ws[q0]? = some (a, .inl (cc 0, n, .inl f))) {i x : Int32} (k : Nat) (hi : i = nI k) (hk : k < n) (hn : n ≤ 1000000) {w2 : va_W} (hset : ws.set q0 (a, .inl (cc 0, n, .inl (va_up f k x))) = w2) (hdg : decode b pc = .ok (.iastore, 1))
    (kk : ∀ (H1 : Heap) (locs1 : List Loc), Wd D cc w2 A H0 H1 locs1 s → W p l e R s m args below meth c H1 locs1 cells slots Q (F0 m (pc + 1) ls rest)) : W p l e R s m args below meth c H locs cells slots Q (F0 m pc ls (.int x :: .int i :: .ref a :: rest)) := by
  obtain ⟨⟨hx, hb, hml, hown, hts⟩, hN⟩ := hC
  obtain ⟨hP, hK, hD, hS, hA⟩ := hW
  refine va_iast hx hb hK hP hD hS q0 0 he rfl (by rw [hi]; exact vp_in_nI hk (by omega)) hdg (fun H1 locs1 a1 a2 a3 => ?_)
  rw [hi, nI_clamp (by omega)] at a1 a2
  have hu : upd f k x = va_up f k x := rfl
  rw [hu, hset] at a1 a2
  exact kk H1 locs1 ⟨a1, hK, a2, a3, hA⟩
theorem q_last (hC : Cx p m c b nL s args own) (hW : Wd D cc ws A H0 H locs s) (q0 : Nat) {n : Nat} {f : Nat → Int64} (he : ws[q0]? = some (a, .inl (cc 1, n, .inr (.inl f)))) {i : Int32} {x : Int64} (k : Nat) (hi : i = nI k) (hk : k < n) (hn : n ≤ 1000000) {w2 : va_W} (hset : ws.set q0 (a, .inl (cc 1, n, .inr (.inl (va_up f k x)))) = w2) (hdg : decode b pc = .ok (.lastore, 1))
    (kk : ∀ (H1 : Heap) (locs1 : List Loc), Wd D cc w2 A H0 H1 locs1 s → W p l e R s m args below meth c H1 locs1 cells slots Q (F0 m (pc + 1) ls rest)) : W p l e R s m args below meth c H locs cells slots Q (F0 m pc ls (.long x :: .int i :: .ref a :: rest)) := by
  obtain ⟨⟨hx, hb, hml, hown, hts⟩, hN⟩ := hC
  obtain ⟨hP, hK, hD, hS, hA⟩ := hW
  refine va_last hx hb hK hP hD hS q0 1 he rfl (by rw [hi]; exact vp_in_nI hk (by omega)) hdg (fun H1 locs1 a1 a2 a3 => ?_)
  rw [hi, nI_clamp (by omega)] at a1 a2
  have hu : vp_updL f k x = va_up f k x := rfl
  rw [hu, hset] at a1 a2
  exact kk H1 locs1 ⟨a1, hK, a2, a3, hA⟩
theorem q_alen (hC : Cx p m c b nL s args own) (hW : Wd D cc ws A H0 H locs s) (q0 t0 : Nat) {cA : ClassId} {x : vp_A} (he : ws[q0]? = some (a, .inl (cA, x))) {ty : FieldType} (ht : (tyL cc)[t0]? = some (cA, ty)) {v : Int32} (hv : Int32.ofNat x.1 = v) (hdg : decode b pc = .ok (.arraylength, 1))
    (kk : W p l e R s m args below meth c H locs cells slots Q (F0 m (pc + 1) ls (.int v :: rest))) : W p l e R s m args below meth c H locs cells slots Q (F0 m pc ls (.ref a :: rest)) := by
  obtain ⟨⟨hx, hb, hml, hown, hts⟩, hN⟩ := hC
  obtain ⟨hP, hK, hD, hS, hA⟩ := hW
  exact va_alen hx hb hK hP q0 t0 he ht hv hdg kk
theorem q_ldc (hC : Cx p m c b nL s args own) {idx : Nat} {v : Int32} (h : Cond.constant own idx v ∈ GW) (hdg : decode b pc = .ok (.ldc idx, 2)) (kk : W p l e R s m args below meth c H locs cells slots Q (F0 m (pc + 2) ls (.int v :: rest))) : W p l e R s m args below meth c H locs cells slots Q (F0 m pc ls rest) := lv_ldc hC.1.1 hC.1.2.1 hC.1.2.2.2.1 (hC.1.2.2.2.2 _ h) hdg kk
theorem q_ldc2 (hC : Cx p m c b nL s args own) {idx : Nat} {v : Int64} (h : Cond.constantLong own idx v ∈ GW) (hdg : decode b pc = .ok (.ldc2_w idx, 3)) (kk : W p l e R s m args below meth c H locs cells slots Q (F0 m (pc + 3) ls (.long v :: rest))) : W p l e R s m args below meth c H locs cells slots Q (F0 m pc ls rest) := lv_ldc2 hC.1.1 hC.1.2.1 hC.1.2.2.2.1 (hC.1.2.2.2.2 _ h) hdg kk
/-- lcmp and the branch behind it -/
theorem q_jlt (hC : Cx p m c b nL s args own) {x y : Int64} {off : Int} {tgt : Nat} (hd1 : decode b pc = .ok (.lcmp, 1)) (hd2 : decode b (pc + 1) = .ok (.ifCond .lt off, 3)) (ht : ((pc + 1 : Nat) : Int) + off = (tgt : Int)) (kt : x < y → W p l e R s m args below meth c H locs cells slots Q (F0 m tgt ls rest)) (kf : ¬ x < y → W p l e R s m args below meth c H locs cells slots Q (F0 m (pc + 4) ls rest)) : W p l e R s m args below meth c H locs cells slots Q (F0 m pc ls (.long y :: .long x :: rest)) :=
  W.lcmp hC.1.1 hC.1.2.1 hd1 (lv_if_lt hC.1.1 hC.1.2.1 hd2 ht (fun h => kt ((lg_cmp_lt x y).mp h)) (fun h => kf (fun q => h ((lg_cmp_lt x y).mpr q))))
theorem q_jge (hC : Cx p m c b nL s args own) {x y : Int64} {off : Int} {tgt : Nat} (hd1 : decode b pc = .ok (.lcmp, 1)) (hd2 : decode b (pc + 1) = .ok (.ifCond .ge off, 3)) (ht : ((pc + 1 : Nat) : Int) + off = (tgt : Int)) (kt : y ≤ x → W p l e R s m args below meth c H locs cells slots Q (F0 m tgt ls rest)) (kf : ¬ y ≤ x → W p l e R s m args below meth c H locs cells slots Q (F0 m (pc + 4) ls rest)) : W p l e R s m args below meth c H locs cells slots Q (F0 m pc ls (.long y :: .long x :: rest)) :=
  W.lcmp hC.1.1 hC.1.2.1 hd1 (lv_if_ge hC.1.1 hC.1.2.1 hd2 ht (fun h => kt ((lg_cmp_ge x y).mp h)) (fun h => kf (fun q => h ((lg_cmp_ge x y).mpr q))))
theorem q_jgt (hC : Cx p m c b nL s args own) {x y : Int64} {off : Int} {tgt : Nat} (hd1 : decode b pc = .ok (.lcmp, 1)) (hd2 : decode b (pc + 1) = .ok (.ifCond .gt off, 3)) (ht : ((pc + 1 : Nat) : Int) + off = (tgt : Int)) (kt : y < x → W p l e R s m args below meth c H locs cells slots Q (F0 m tgt ls rest)) (kf : ¬ y < x → W p l e R s m args below meth c H locs cells slots Q (F0 m (pc + 4) ls rest)) : W p l e R s m args below meth c H locs cells slots Q (F0 m pc ls (.long y :: .long x :: rest)) :=
  W.lcmp hC.1.1 hC.1.2.1 hd1 (lv_if_gt hC.1.1 hC.1.2.1 hd2 ht (fun h => kt ((lg_cmp_gt x y).mp h)) (fun h => kf (fun q => h ((lg_cmp_gt x y).mpr q))))
theorem q_jle (hC : Cx p m c b nL s args own) {x y : Int64} {off : Int} {tgt : Nat} (hd1 : decode b pc = .ok (.lcmp, 1)) (hd2 : decode b (pc + 1) = .ok (.ifCond .le off, 3)) (ht : ((pc + 1 : Nat) : Int) + off = (tgt : Int)) (kt : x ≤ y → W p l e R s m args below meth c H locs cells slots Q (F0 m tgt ls rest)) (kf : ¬ x ≤ y → W p l e R s m args below meth c H locs cells slots Q (F0 m (pc + 4) ls rest)) : W p l e R s m args below meth c H locs cells slots Q (F0 m pc ls (.long y :: .long x :: rest)) :=
  W.lcmp hC.1.1 hC.1.2.1 hd1 (lv_if_le hC.1.1 hC.1.2.1 hd2 ht (fun h => kt ((lg_cmp_le x y).mp h)) (fun h => kf (fun q => h ((lg_cmp_le x y).mpr q))))
theorem q_jeq (hC : Cx p m c b nL s args own) {x y : Int64} {off : Int} {tgt : Nat} (hd1 : decode b pc = .ok (.lcmp, 1)) (hd2 : decode b (pc + 1) = .ok (.ifCond .eq off, 3)) (ht : ((pc + 1 : Nat) : Int) + off = (tgt : Int)) (kt : x = y → W p l e R s m args below meth c H locs cells slots Q (F0 m tgt ls rest)) (kf : ¬ x = y → W p l e R s m args below meth c H locs cells slots Q (F0 m (pc + 4) ls rest)) : W p l e R s m args below meth c H locs cells slots Q (F0 m pc ls (.long y :: .long x :: rest)) :=
  W.lcmp hC.1.1 hC.1.2.1 hd1 (lv_if_eq hC.1.1 hC.1.2.1 hd2 ht (fun h => kt ((lg_cmp_eq x y).mp h)) (fun h => kf (fun q => h ((lg_cmp_eq x y).mpr q))))
theorem q_jne (hC : Cx p m c b nL s args own) {x y : Int64} {off : Int} {tgt : Nat} (hd1 : decode b pc = .ok (.lcmp, 1)) (hd2 : decode b (pc + 1) = .ok (.ifCond .ne off, 3)) (ht : ((pc + 1 : Nat) : Int) + off = (tgt : Int)) (kt : ¬ x = y → W p l e R s m args below meth c H locs cells slots Q (F0 m tgt ls rest)) (kf : x = y → W p l e R s m args below meth c H locs cells slots Q (F0 m (pc + 4) ls rest)) : W p l e R s m args below meth c H locs cells slots Q (F0 m pc ls (.long y :: .long x :: rest)) :=
  W.lcmp hC.1.1 hC.1.2.1 hd1 (lv_if_ne hC.1.1 hC.1.2.1 hd2 ht (fun h => kt (fun q => h ((lg_cmp_eq x y).mpr q))) (fun h => kf ((lg_cmp_eq x y).mp h)))
theorem q_free (hW : Wd D cc ws A H0 H locs s) : ∀ q, va_A ws H.size q → A q := by
  intro q h
  obtain ⟨hP, hK, hD, hS, hA⟩ := hW
  rcases h with ⟨k, e, h⟩ | h
  · exact hD.2 k (q, e) h
  · exact hA q (Nat.le_trans hS.1 h)
theorem q_pre (hC : Cx p m c b nL s args own) (hW : Wd D cc ws A H0 H locs s) {av : List Value} : ∀ U : State, U.heap = H → s.WarmedH U.vm → va_Pc av (PreB D cc ws H.size) av.toArray U := by
  obtain ⟨hP, hK, hD, hS, hA⟩ := hW
  exact fun U hU hw => ⟨rfl, by rw [hU], by rw [hU]; exact hP, va_K.moved hw.alike hK, hD.weaken (fun _ _ _ _ => trivial), hC.2.warm hw⟩
variable {y : MethodName} {b2 : ByteArray} {L2 d2 idx n : Nat} {rt : FieldType} {As st : List Value} {ws2 : va_W}
theorem q_linkV (hC : Cx p m c b nL s args own) {rt : Option FieldType} (hm : MthV own idx y b2 L2 rt n) (hR : d2 + 1 ≤ R.frames ∧ 8 + (L2 + 11) + 36 * d2 ≤ R.locals) :
    CallW R s args own y.cls idx y b2 L2 rt (wds y b2 L2 rt) (rmD d2) 0 0 n ∨ ∃ host, va_CN R s args own idx y host b2 L2 rt (wds y b2 L2 rt) (rmD d2) 0 0 n ∧ (Cond.instanceMethod y).before args s = true ∧ (Cond.selects y.cls y y).before args s = true := by
  obtain ⟨⟨hx, hb, hml, hown, hts⟩, hN⟩ := hC
  obtain ⟨h1, h2, h3, h4, h5, h6⟩ := hm
  rcases h6 with h6 | ⟨host, h6⟩
  · exact Or.inl ⟨callB_of n hts (good_wds h1) rfl rfl rfl (hts _ h4) (hts _ h6) h5 hR, hts _ h2, hts _ h3⟩
  · exact Or.inr ⟨host, va_cnB n hts (good_wds h1) rfl rfl rfl (hN _ h6) (hts _ h4) h5 hR, hts _ h2, hts _ h3⟩
theorem q_linkS (hC : Cx p m c b nL s args own) {rt : Option FieldType} (hm : MthS own idx y b2 L2 rt n) (hR : d2 + 1 ≤ R.frames ∧ 8 + (L2 + 11) + 36 * d2 ≤ R.locals) :
    (CallB R s args own idx y b2 L2 rt (wds y b2 L2 rt) (rmD d2) 0 0 n ∧ (Cond.static y).before args s = true) ∨ ∃ host, va_CN R s args own idx y host b2 L2 rt (wds y b2 L2 rt) (rmD d2) 0 0 n ∧ (Cond.static y).before args s = true ∧ True := by
  obtain ⟨⟨hx, hb, hml, hown, hts⟩, hN⟩ := hC
  obtain ⟨h1, h2, h4, h5, h6⟩ := hm
  rcases h6 with h6 | ⟨host, h6⟩
  · exact Or.inl ⟨callB_of n hts (good_wds h1) rfl rfl rfl (hts _ h4) (hts _ h6) h5 hR, hts _ h2⟩
  · exact Or.inr ⟨host, va_cnB n hts (good_wds h1) rfl rfl rfl (hN _ h6) (hts _ h4) h5 hR, hts _ h2, trivial⟩
theorem q_runV (hC : Cx p m c b nL s args own) (hW : Wd D cc ws A H0 H locs s) {rt : Option FieldType} {Qc : Array Value → State → Outcome → State → Prop} (hM : Met l y (wds y b2 L2 rt) (rmD d2) (va_Pc (.ref a :: As) (PreB D cc ws H.size)) Qc 0 0 (va_A ws H.size)) (hm : MthV own idx y b2 L2 rt n) (q0 : Nat) {ci : Nat} {fs : List Value} (he : ws[q0]? = some (a, .inr (ci, fs))) {T : u_T} {N : Nat} (hcl : vwCl[ci]? = some (y.cls, T, N)) (hR : d2 + 1 ≤ R.frames ∧ 8 + (L2 + 11) + 36 * d2 ≤ R.locals)
    (hn : As.length = n) (hsz : ls.size = nL) (hst : st = As.reverse ++ .ref a :: rest) (hw : (rest.map fun v => v.category).sum ≤ 8) (hcs : cells + 0 ≤ R.cells ∧ slots + 0 ≤ R.slots) (hdg : decode b pc = .ok (.invokevirtual idx, 3)) :
    va_Run p l e R s m args below meth c H locs cells slots 0 0 (F0 m pc ls st) rest (Qc (Value.ref a :: As).toArray) (va_A ws H.size) := by
  rcases q_linkV hC hm hR with h | ⟨host, h⟩
  · exact va_runV hC.1 hM h ⟨pre_blind, va_recv hW.2.1 hW.1 hcl he, q_pre hC hW⟩ rfl hn hsz hst (lv_room hw) hdg hcs
  · exact va_runVN hC.1 hM h ⟨pre_blind, va_recv hW.2.1 hW.1 hcl he, q_pre hC hW⟩ rfl hn hsz hst (lv_room hw) hdg hcs
theorem q_runS (hC : Cx p m c b nL s args own) (hW : Wd D cc ws A H0 H locs s) {rt : Option FieldType} {Qc : Array Value → State → Outcome → State → Prop} (hM : Met l y (wds y b2 L2 rt) (rmD d2) (va_Pc As (PreB D cc ws H.size)) Qc 0 0 (va_A ws H.size)) (hm : MthS own idx y b2 L2 rt n) (hR : d2 + 1 ≤ R.frames ∧ 8 + (L2 + 11) + 36 * d2 ≤ R.locals)
    (hn : As.length = n) (hsz : ls.size = nL) (hst : st = As.reverse ++ rest) (hw : (rest.map fun v => v.category).sum ≤ 8) (hcs : cells + 0 ≤ R.cells ∧ slots + 0 ≤ R.slots) (hdg : decode b pc = .ok (.invokestatic idx, 3)) :
    va_Run p l e R s m args below meth c H locs cells slots 0 0 (F0 m pc ls st) rest (Qc As.toArray) (va_A ws H.size) := by
  rcases q_linkS hC hm hR with h | ⟨host, h⟩
  · exact va_runS hC.1 hM h ⟨pre_blind, q_pre hC hW⟩ rfl hn hsz hst (lv_room hw) hdg hcs
  · exact va_runSN hC.1 hM h ⟨pre_blind, q_pre hC hW⟩ rfl hn hsz hst (lv_room hw) hdg hcs
theorem q_backI {r : Int32} {ar : Array Value} (hW : Wd D cc ws A H0 H locs s) (hr : va_Run p l e R s m args below meth c H locs cells slots 0 0 (F0 m pc ls st) rest ((va_Qi (fun (r' : Int32) (_ : Unit) => r' = r) (PostB D cc ws ws2 H.size) (va_A ws H.size)) ar) (va_A ws H.size))
    (kk : ∀ (H1 : Heap) (locs1 : List Loc), Wd D cc ws2 A H0 H1 locs1 s → W p l e R s m args below meth c H1 locs1 cells slots Q (F0 m (pc + 3) ls (.int r :: rest))) : W p l e R s m args below meth c H locs cells slots Q (F0 m pc ls st) := by
  have hF := q_free hW
  refine va_calli hr hW.2.2.2.1 (fun q _ h => hF q h) hF (fun r' u t H1 locs1 ht hvm hp hB hz hk hS => ?_)
  subst hp
  obtain ⟨h1, h2, h3⟩ := hB
  exact kk H1 locs1 ⟨by rw [← ht]; exact h1, hW.2.1, h3.weaken (fun _ q _ h => hF q.1 h), hS, hW.2.2.2.2⟩
theorem q_backL {r : Int64} {ar : Array Value} (hW : Wd D cc ws A H0 H locs s) (hr : va_Run p l e R s m args below meth c H locs cells slots 0 0 (F0 m pc ls st) rest ((va_Ql (fun (r' : Int64) (_ : Unit) => r' = r) (PostB D cc ws ws2 H.size) (va_A ws H.size)) ar) (va_A ws H.size))
    (kk : ∀ (H1 : Heap) (locs1 : List Loc), Wd D cc ws2 A H0 H1 locs1 s → W p l e R s m args below meth c H1 locs1 cells slots Q (F0 m (pc + 3) ls (.long r :: rest))) : W p l e R s m args below meth c H locs cells slots Q (F0 m pc ls st) := by
  have hF := q_free hW
  refine va_calll hr hW.2.2.2.1 (fun q _ h => hF q h) hF (fun r' u t H1 locs1 ht hvm hp hB hz hk hS => ?_)
  subst hp
  obtain ⟨h1, h2, h3⟩ := hB
  exact kk H1 locs1 ⟨by rw [← ht]; exact h1, hW.2.1, h3.weaken (fun _ q _ h => hF q.1 h), hS, hW.2.2.2.2⟩
theorem q_backV {ar : Array Value} (hW : Wd D cc ws A H0 H locs s) (hr : va_Run p l e R s m args below meth c H locs cells slots 0 0 (F0 m pc ls st) rest ((va_Qv (fun (_ : Unit) => True) (PostB D cc ws ws2 H.size) (va_A ws H.size)) ar) (va_A ws H.size))
    (kk : ∀ (H1 : Heap) (locs1 : List Loc), Wd D cc ws2 A H0 H1 locs1 s → W p l e R s m args below meth c H1 locs1 cells slots Q (F0 m (pc + 3) ls rest)) : W p l e R s m args below meth c H locs cells slots Q (F0 m pc ls st) := by
  have hF := q_free hW
  refine va_callv hr hW.2.2.2.1 (fun q _ h => hF q h) hF (fun u t H1 locs1 ht hvm hp hB hz hk hS => ?_)
  obtain ⟨h1, h2, h3⟩ := hB
  exact kk H1 locs1 ⟨by rw [← ht]; exact h1, hW.2.1, h3.weaken (fun _ q _ h => hF q.1 h), hS, hW.2.2.2.2⟩
theorem q_VI {r : Int32} (hC : Cx p m c b nL s args own) (hW : Wd D cc ws A H0 H locs s) (hc : CtI l D cc y b2 L2 rt d2 (.ref a :: As) ws r ws2) (hm : MthV own idx y b2 L2 (some rt) n) (q0 : Nat) {ci : Nat} {fs : List Value} (he : ws[q0]? = some (a, .inr (ci, fs))) {T : u_T} {N : Nat} (hcl : vwCl[ci]? = some (y.cls, T, N)) (hR : d2 + 1 ≤ R.frames ∧ 8 + (L2 + 11) + 36 * d2 ≤ R.locals)
    (hn : As.length = n) (hsz : ls.size = nL) (hst : st = As.reverse ++ .ref a :: rest) (hw : (rest.map fun v => v.category).sum ≤ 8) (hcs : cells + 0 ≤ R.cells ∧ slots + 0 ≤ R.slots) (hdg : decode b pc = .ok (.invokevirtual idx, 3))
    (kk : ∀ (H1 : Heap) (locs1 : List Loc), Wd D cc ws2 A H0 H1 locs1 s → W p l e R s m args below meth c H1 locs1 cells slots Q (F0 m (pc + 3) ls (.int r :: rest))) : W p l e R s m args below meth c H locs cells slots Q (F0 m pc ls st) :=
  q_backI hW (q_runV hC hW (hc H.size) hm q0 he hcl hR hn hsz hst hw hcs hdg) kk
theorem q_VL {r : Int64} (hC : Cx p m c b nL s args own) (hW : Wd D cc ws A H0 H locs s) (hc : CtL l D cc y b2 L2 d2 (.ref a :: As) ws r ws2) (hm : MthV own idx y b2 L2 (some .long) n) (q0 : Nat) {ci : Nat} {fs : List Value} (he : ws[q0]? = some (a, .inr (ci, fs))) {T : u_T} {N : Nat} (hcl : vwCl[ci]? = some (y.cls, T, N)) (hR : d2 + 1 ≤ R.frames ∧ 8 + (L2 + 11) + 36 * d2 ≤ R.locals)
    (hn : As.length = n) (hsz : ls.size = nL) (hst : st = As.reverse ++ .ref a :: rest) (hw : (rest.map fun v => v.category).sum ≤ 8) (hcs : cells + 0 ≤ R.cells ∧ slots + 0 ≤ R.slots) (hdg : decode b pc = .ok (.invokevirtual idx, 3))
    (kk : ∀ (H1 : Heap) (locs1 : List Loc), Wd D cc ws2 A H0 H1 locs1 s → W p l e R s m args below meth c H1 locs1 cells slots Q (F0 m (pc + 3) ls (.long r :: rest))) : W p l e R s m args below meth c H locs cells slots Q (F0 m pc ls st) :=
  q_backL hW (q_runV hC hW (hc H.size) hm q0 he hcl hR hn hsz hst hw hcs hdg) kk
theorem q_VV (hC : Cx p m c b nL s args own) (hW : Wd D cc ws A H0 H locs s) (hc : CtV l D cc y b2 L2 d2 (.ref a :: As) ws ws2) (hm : MthV own idx y b2 L2 none n) (q0 : Nat) {ci : Nat} {fs : List Value} (he : ws[q0]? = some (a, .inr (ci, fs))) {T : u_T} {N : Nat} (hcl : vwCl[ci]? = some (y.cls, T, N)) (hR : d2 + 1 ≤ R.frames ∧ 8 + (L2 + 11) + 36 * d2 ≤ R.locals)
    (hn : As.length = n) (hsz : ls.size = nL) (hst : st = As.reverse ++ .ref a :: rest) (hw : (rest.map fun v => v.category).sum ≤ 8) (hcs : cells + 0 ≤ R.cells ∧ slots + 0 ≤ R.slots) (hdg : decode b pc = .ok (.invokevirtual idx, 3))
    (kk : ∀ (H1 : Heap) (locs1 : List Loc), Wd D cc ws2 A H0 H1 locs1 s → W p l e R s m args below meth c H1 locs1 cells slots Q (F0 m (pc + 3) ls rest)) : W p l e R s m args below meth c H locs cells slots Q (F0 m pc ls st) :=
  q_backV hW (q_runV hC hW (hc H.size) hm q0 he hcl hR hn hsz hst hw hcs hdg) kk
theorem q_SI {r : Int32} (hC : Cx p m c b nL s args own) (hW : Wd D cc ws A H0 H locs s) (hc : CtI l D cc y b2 L2 rt d2 As ws r ws2) (hm : MthS own idx y b2 L2 (some rt) n) (hR : d2 + 1 ≤ R.frames ∧ 8 + (L2 + 11) + 36 * d2 ≤ R.locals)
    (hn : As.length = n) (hsz : ls.size = nL) (hst : st = As.reverse ++ rest) (hw : (rest.map fun v => v.category).sum ≤ 8) (hcs : cells + 0 ≤ R.cells ∧ slots + 0 ≤ R.slots) (hdg : decode b pc = .ok (.invokestatic idx, 3))
    (kk : ∀ (H1 : Heap) (locs1 : List Loc), Wd D cc ws2 A H0 H1 locs1 s → W p l e R s m args below meth c H1 locs1 cells slots Q (F0 m (pc + 3) ls (.int r :: rest))) : W p l e R s m args below meth c H locs cells slots Q (F0 m pc ls st) :=
  q_backI hW (q_runS hC hW (hc H.size) hm hR hn hsz hst hw hcs hdg) kk
theorem q_SL {r : Int64} (hC : Cx p m c b nL s args own) (hW : Wd D cc ws A H0 H locs s) (hc : CtL l D cc y b2 L2 d2 As ws r ws2) (hm : MthS own idx y b2 L2 (some .long) n) (hR : d2 + 1 ≤ R.frames ∧ 8 + (L2 + 11) + 36 * d2 ≤ R.locals)
    (hn : As.length = n) (hsz : ls.size = nL) (hst : st = As.reverse ++ rest) (hw : (rest.map fun v => v.category).sum ≤ 8) (hcs : cells + 0 ≤ R.cells ∧ slots + 0 ≤ R.slots) (hdg : decode b pc = .ok (.invokestatic idx, 3))
    (kk : ∀ (H1 : Heap) (locs1 : List Loc), Wd D cc ws2 A H0 H1 locs1 s → W p l e R s m args below meth c H1 locs1 cells slots Q (F0 m (pc + 3) ls (.long r :: rest))) : W p l e R s m args below meth c H locs cells slots Q (F0 m pc ls st) :=
  q_backL hW (q_runS hC hW (hc H.size) hm hR hn hsz hst hw hcs hdg) kk
end KitB
