/-! THE CLASSES: names, fields in the order of the words (declaring class, name, descriptor, final), and what the tables say of them. -/
/-- words that stay what they are while the machine warms; the others (one) are not used in the methods -/
def xv_wk : Cond → Bool
  | .arrayClass _ => true
  | .methodLinkNest _ _ _ _ => true
  | .fieldLinkNest _ _ _ _ _ _ => true
  | .privateMethod _ => true
  | .arrayOver (.object _) => true
  | w => w.onTables && w.keeps
def xv_T : List Cond := lw_tbl.map fun w => if xv_wk w = true then w else .tt
theorem xv_T_of {args : Array Value} {s : State} (h : ∀ w ∈ lw_tbl, w.before args s = true) : ∀ w ∈ xv_T, w.before args s = true := by
  intro w hw
  obtain ⟨v, hv, rfl⟩ := List.mem_map.mp hw
  by_cases hk : xv_wk v = true
  · rw [if_pos hk]; exact h v hv
  · rw [if_neg hk]; rfl
theorem xv_wsin {C : String} {T : u_T} {N : Nat} {L : List Nat} (h : ∀ k, k < N → L[k]?.bind (fun i => xv_T[i]?) = some (u_lay C T k)) : ∀ w ∈ u_ws C T N, w ∈ xv_T := by
  intro w hw
  obtain ⟨k, hk, rfl⟩ := List.mem_map.mp hw
  have h1 := h k (List.mem_range.mp hk)
  cases hL : L[k]? with
  | none => rw [hL] at h1; cases h1
  | some i => rw [hL] at h1; exact List.mem_of_getElem? h1
def xf_Mo : u_T := fun k => match k with
  | 0 => ("OnionCourtModel", "now", "[I", true)
  | 1 => ("OnionCourtModel", "aside", "[I", true)
  | 2 => ("OnionCourtModel", "kept", "[I", true)
  | 3 => ("OnionCourtModel", "prior", "[I", true)
  | 4 => ("OnionCourtModel", "holdsIn", "[J", true)
  | 5 => ("OnionCourtModel", "questionSet", "I", false)
  | 6 => ("OnionCourtModel", "tape", "[B", true)
  | 7 => ("OnionCourtModel", "taped", "I", false)
  | 8 => ("OnionCourtModel", "place0", "I", false)
  | 9 => ("OnionCourtModel", "length0", "I", false)
  | 10 => ("OnionCourtModel", "fault", "I", false)
  | 11 => ("OnionCourtModel", "number0", "I", false)
  | 12 => ("OnionCourtModel", "open", "I", false)
  | 13 => ("OnionCourtModel", "codeMany", "I", false)
  | 14 => ("OnionCourtModel", "waiting", "I", false)
  | 15 => ("OnionCourtModel", "saidMany", "I", false)
  | 16 => ("OnionCourtModel", "clauses", "I", false)
  | 17 => ("OnionCourtModel", "said", "[I", true)
  | 18 => ("OnionCourtModel", "waitsAt", "[I", true)
  | 19 => ("OnionCourtModel", "saidLetter", "[I", true)
  | 20 => ("OnionCourtModel", "saidFrom", "[I", true)
  | 21 => ("OnionCourtModel", "saidHalf", "[I", true)
  | 22 => ("OnionCourtModel", "saidTo", "[I", true)
  | 23 => ("OnionCourtModel", "codes", "[I", true)
  | 24 => ("OnionCourtModel", "clauseOf", "[I", true)
  | 25 => ("OnionCourtModel", "codeFrom", "[I", true)
  | 26 => ("OnionCourtModel", "codeHalf", "[I", true)
  | 27 => ("OnionCourtModel", "codeTo", "[I", true)
  | 28 => ("OnionCourtModel", "stack", "[I", true)
  | 29 => ("OnionCourtModel", "facts", "[I", true)
  | 30 => ("OnionCourtModel", "sign", "[I", true)
  | 31 => ("OnionCourtModel", "said0", "[J", true)
  | 32 => ("OnionCourtModel", "signs", "I", false)
  | 33 => ("OnionCourtModel", "sets", "I", false)
  | 34 => ("OnionCourtModel", "opened", "I", false)
  | 35 => ("OnionCourtModel", "isNext", "Z", false)
  | 36 => ("OnionCourtModel", "newLayer", "[I", true)
  | 37 => ("OnionCourtModel", "newMany", "I", false)
  | 38 => ("OnionCourtModel", "lineWho", "[I", true)
  | 39 => ("OnionCourtModel", "lineAsked", "[I", true)
  | 40 => ("OnionCourtModel", "lineTold", "[I", true)
  | 41 => ("OnionCourtModel", "peels", "[I", true)
  | 42 => ("OnionCourtModel", "lines", "I", false)
  | 43 => ("OnionCourtModel", "sprouts", "I", false)
  | 44 => ("OnionCourtModel", "gone", "I", false)
  | 45 => ("OnionCourtModel", "weightOf", "[J", true)
  | 46 => ("OnionCourtModel", "boxOf", "[I", true)
  | 47 => ("OnionCourtModel", "fullOf", "[I", true)
  | 48 => ("OnionCourtModel", "whoOf", "[I", true)
  | 49 => ("OnionCourtModel", "rowNow", "[I", true)
  | 50 => ("OnionCourtModel", "rowBest", "[I", true)
  | _ => ("OnionCourtModel", "isKept", "Z", false)
def xt_Mo : Nat → FieldType := fun k => match k with
  | 0 => .array .int
  | 1 => .array .int
  | 2 => .array .int
  | 3 => .array .int
  | 4 => .array .long
  | 5 => .int
  | 6 => .array .byte
  | 7 => .int
  | 8 => .int
  | 9 => .int
  | 10 => .int
  | 11 => .int
  | 12 => .int
  | 13 => .int
  | 14 => .int
  | 15 => .int
  | 16 => .int
  | 17 => .array .int
  | 18 => .array .int
  | 19 => .array .int
  | 20 => .array .int
  | 21 => .array .int
  | 22 => .array .int
  | 23 => .array .int
  | 24 => .array .int
  | 25 => .array .int
  | 26 => .array .int
  | 27 => .array .int
  | 28 => .array .int
  | 29 => .array .int
  | 30 => .array .int
  | 31 => .array .long
  | 32 => .int
  | 33 => .int
  | 34 => .int
  | 35 => .boolean
  | 36 => .array .int
  | 37 => .int
  | 38 => .array .int
  | 39 => .array .int
  | 40 => .array .int
  | 41 => .array .int
  | 42 => .int
  | 43 => .int
  | 44 => .int
  | 45 => .array .long
  | 46 => .array .int
  | 47 => .array .int
  | 48 => .array .int
  | 49 => .array .int
  | 50 => .array .int
  | _ => .boolean
theorem xn_Mo : ∀ a, a < 52 → ∀ b, b < 52 → a ≠ b → (xf_Mo a).2.1 ≠ (xf_Mo b).2.1 := by decide +kernel
theorem xt_Mo_ok : ∀ k, k < 52 → parseFieldDescriptor (xf_Mo k).2.2.1 = some (xt_Mo k) := by decide +kernel
theorem xi_Mo_ok : ∀ k, k < 52 → ([1145, 1147, 1149, 1151, 1153, 1155, 1157, 1159, 1161, 1163, 1165, 1167, 1169, 1171, 1173, 1175, 1177, 1179, 1181, 1183, 1185, 1187, 1189, 1191, 1193, 1195, 1197, 1199, 1201, 1203, 1205, 1207, 1209, 1211, 1213, 1215, 1217, 1219, 1221, 1223, 1225, 1227, 1229, 1231, 1233, 1235, 1237, 1239, 1241, 1243, 1245, 1247] : List Nat)[k]?.bind (fun i => xv_T[i]?) = some (u_lay "OnionCourtModel" xf_Mo k) := by decide +kernel
theorem xi_Mo : ∀ w ∈ u_ws "OnionCourtModel" xf_Mo 52, w ∈ xv_T := fun w h => xv_wsin (fun k hk => xi_Mo_ok k hk) w h
def xf_Ct : u_T := fun k => match k with
  | 0 => ("OnionCourt", "tape", "LOnionCourt$Tape;", true)
  | 1 => ("OnionCourt", "questions", "LOnionCourt$Questions;", true)
  | 2 => ("OnionCourt", "inForce", "LOnionCourt$Law;", true)
  | 3 => ("OnionCourt", "draft", "LOnionCourt$Law;", true)
  | 4 => ("OnionCourt", "matter", "LOnionCourt$Case;", true)
  | 5 => ("OnionCourt", "scales", "LOnionCourt$Scales;", true)
  | 6 => ("OnionCourt", "now", "LOnionCourt$Archive;", true)
  | 7 => ("OnionCourt", "kept", "LOnionCourt$Archive;", true)
  | 8 => ("OnionCourt", "trial", "LOnionCourt$Archive;", true)
  | 9 => ("OnionCourt", "isKept", "Z", false)
  | 10 => ("OnionCourt", "spare", "LOnionCourt$Witness;", true)
  | 11 => ("OnionCourt", "boxes", "LOnionCourt$Boxes;", true)
  | 12 => ("OnionCourt", "exchange", "LOnionCourt$Exchange;", true)
  | _ => ("OnionCourt", "alibis", "[I", true)
def xt_Ct : Nat → FieldType := fun k => match k with
  | 0 => .object "OnionCourt$Tape"
  | 1 => .object "OnionCourt$Questions"
  | 2 => .object "OnionCourt$Law"
  | 3 => .object "OnionCourt$Law"
  | 4 => .object "OnionCourt$Case"
  | 5 => .object "OnionCourt$Scales"
  | 6 => .object "OnionCourt$Archive"
  | 7 => .object "OnionCourt$Archive"
  | 8 => .object "OnionCourt$Archive"
  | 9 => .boolean
  | 10 => .object "OnionCourt$Witness"
  | 11 => .object "OnionCourt$Boxes"
  | 12 => .object "OnionCourt$Exchange"
  | _ => .array .int
theorem xn_Ct : ∀ a, a < 14 → ∀ b, b < 14 → a ≠ b → (xf_Ct a).2.1 ≠ (xf_Ct b).2.1 := by decide +kernel
theorem xt_Ct_ok : ∀ k, k < 14 → parseFieldDescriptor (xf_Ct k).2.2.1 = some (xt_Ct k) := by decide +kernel
theorem xi_Ct_ok : ∀ k, k < 14 → ([357, 359, 361, 363, 365, 367, 369, 371, 373, 375, 377, 379, 381, 383] : List Nat)[k]?.bind (fun i => xv_T[i]?) = some (u_lay "OnionCourt" xf_Ct k) := by decide +kernel
theorem xi_Ct : ∀ w ∈ u_ws "OnionCourt" xf_Ct 14, w ∈ xv_T := fun w h => xv_wsin (fun k hk => xi_Ct_ok k hk) w h
def xf_Tape : u_T := fun k => match k with
  | 0 => ("OnionCourt$Tape", "bytes", "[I", true)
  | 1 => ("OnionCourt$Tape", "size", "I", false)
  | 2 => ("OnionCourt$Tape", "length", "I", false)
  | 3 => ("OnionCourt$Tape", "place", "I", false)
  | _ => ("OnionCourt$Tape", "fault", "I", false)
def xt_Tape : Nat → FieldType := fun k => match k with
  | 0 => .array .int
  | 1 => .int
  | 2 => .int
  | 3 => .int
  | _ => .int
theorem xn_Tape : ∀ a, a < 5 → ∀ b, b < 5 → a ≠ b → (xf_Tape a).2.1 ≠ (xf_Tape b).2.1 := by decide +kernel
theorem xt_Tape_ok : ∀ k, k < 5 → parseFieldDescriptor (xf_Tape k).2.2.1 = some (xt_Tape k) := by decide +kernel
theorem xi_Tape_ok : ∀ k, k < 5 → ([107, 109, 111, 113, 115] : List Nat)[k]?.bind (fun i => xv_T[i]?) = some (u_lay "OnionCourt$Tape" xf_Tape k) := by decide +kernel
theorem xi_Tape : ∀ w ∈ u_ws "OnionCourt$Tape" xf_Tape 5, w ∈ xv_T := fun w h => xv_wsin (fun k hk => xi_Tape_ok k hk) w h
def xf_Questions : u_T := fun k => match k with
  | 0 => ("OnionCourt$Questions", "worlds", "[I", true)
  | _ => ("OnionCourt$Questions", "told", "I", false)
def xt_Questions : Nat → FieldType := fun k => match k with
  | 0 => .array .int
  | _ => .int
theorem xn_Questions : ∀ a, a < 2 → ∀ b, b < 2 → a ≠ b → (xf_Questions a).2.1 ≠ (xf_Questions b).2.1 := by decide +kernel
theorem xt_Questions_ok : ∀ k, k < 2 → parseFieldDescriptor (xf_Questions k).2.2.1 = some (xt_Questions k) := by decide +kernel
theorem xi_Questions_ok : ∀ k, k < 2 → ([127, 129] : List Nat)[k]?.bind (fun i => xv_T[i]?) = some (u_lay "OnionCourt$Questions" xf_Questions k) := by decide +kernel
theorem xi_Questions : ∀ w ∈ u_ws "OnionCourt$Questions" xf_Questions 2, w ∈ xv_T := fun w h => xv_wsin (fun k hk => xi_Questions_ok k hk) w h
def xf_Law : u_T := fun k => match k with
  | 0 => ("OnionCourt$Law", "steps", "[I", true)
  | 1 => ("OnionCourt$Law", "numbers", "[I", true)
  | 2 => ("OnionCourt$Law", "kinds", "[I", true)
  | 3 => ("OnionCourt$Law", "starts", "[I", true)
  | 4 => ("OnionCourt$Law", "turns", "[I", true)
  | 5 => ("OnionCourt$Law", "ends", "[I", true)
  | 6 => ("OnionCourt$Law", "stack", "[J", true)
  | 7 => ("OnionCourt$Law", "size", "I", false)
  | _ => ("OnionCourt$Law", "rules", "I", false)
def xt_Law : Nat → FieldType := fun k => match k with
  | 0 => .array .int
  | 1 => .array .int
  | 2 => .array .int
  | 3 => .array .int
  | 4 => .array .int
  | 5 => .array .int
  | 6 => .array .long
  | 7 => .int
  | _ => .int
theorem xn_Law : ∀ a, a < 9 → ∀ b, b < 9 → a ≠ b → (xf_Law a).2.1 ≠ (xf_Law b).2.1 := by decide +kernel
theorem xt_Law_ok : ∀ k, k < 9 → parseFieldDescriptor (xf_Law k).2.2.1 = some (xt_Law k) := by decide +kernel
theorem xi_Law_ok : ∀ k, k < 9 → ([147, 149, 151, 153, 155, 157, 159, 161, 163] : List Nat)[k]?.bind (fun i => xv_T[i]?) = some (u_lay "OnionCourt$Law" xf_Law k) := by decide +kernel
theorem xi_Law : ∀ w ∈ u_ws "OnionCourt$Law" xf_Law 9, w ∈ xv_T := fun w h => xv_wsin (fun k hk => xi_Law_ok k hk) w h
def xf_Case : u_T := fun k => match k with
  | 0 => ("OnionCourt$Case", "witness", "I", false)
  | 1 => ("OnionCourt$Case", "honesty", "I", false)
  | 2 => ("OnionCourt$Case", "strength", "I", false)
  | 3 => ("OnionCourt$Case", "layers", "I", false)
  | 4 => ("OnionCourt$Case", "question", "I", false)
  | 5 => ("OnionCourt$Case", "holds", "I", false)
  | 6 => ("OnionCourt$Case", "lies", "I", false)
  | _ => ("OnionCourt$Case", "week", "I", false)
def xt_Case : Nat → FieldType := fun k => match k with
  | 0 => .int
  | 1 => .int
  | 2 => .int
  | 3 => .int
  | 4 => .int
  | 5 => .int
  | 6 => .int
  | _ => .int
theorem xn_Case : ∀ a, a < 8 → ∀ b, b < 8 → a ≠ b → (xf_Case a).2.1 ≠ (xf_Case b).2.1 := by decide +kernel
theorem xt_Case_ok : ∀ k, k < 8 → parseFieldDescriptor (xf_Case k).2.2.1 = some (xt_Case k) := by decide +kernel
theorem xi_Case_ok : ∀ k, k < 8 → ([181, 183, 185, 187, 189, 191, 193, 195] : List Nat)[k]?.bind (fun i => xv_T[i]?) = some (u_lay "OnionCourt$Case" xf_Case k) := by decide +kernel
theorem xi_Case : ∀ w ∈ u_ws "OnionCourt$Case" xf_Case 8, w ∈ xv_T := fun w h => xv_wsin (fun k hk => xi_Case_ok k hk) w h
def xf_Scales : u_T := fun k => match k with
  | 0 => ("OnionCourt$Scales", "tenths", "[I", true)
  | _ => ("OnionCourt$Scales", "weights", "[J", true)
def xt_Scales : Nat → FieldType := fun k => match k with
  | 0 => .array .int
  | _ => .array .long
theorem xn_Scales : ∀ a, a < 2 → ∀ b, b < 2 → a ≠ b → (xf_Scales a).2.1 ≠ (xf_Scales b).2.1 := by decide +kernel
theorem xt_Scales_ok : ∀ k, k < 2 → parseFieldDescriptor (xf_Scales k).2.2.1 = some (xt_Scales k) := by decide +kernel
theorem xi_Scales_ok : ∀ k, k < 2 → ([206, 208] : List Nat)[k]?.bind (fun i => xv_T[i]?) = some (u_lay "OnionCourt$Scales" xf_Scales k) := by decide +kernel
theorem xi_Scales : ∀ w ∈ u_ws "OnionCourt$Scales" xf_Scales 2, w ∈ xv_T := fun w h => xv_wsin (fun k hk => xi_Scales_ok k hk) w h
def xf_Archive : u_T := fun k => match k with
  | 0 => ("OnionCourt$Archive", "witnesses", "[LOnionCourt$Witness;", true)
  | 1 => ("OnionCourt$Archive", "answers", "[LOnionCourt$Answer;", true)
  | 2 => ("OnionCourt$Archive", "said", "I", false)
  | 3 => ("OnionCourt$Archive", "week", "I", false)
  | 4 => ("OnionCourt$Archive", "drawn", "I", false)
  | 5 => ("OnionCourt$Archive", "sprouted", "I", false)
  | _ => ("OnionCourt$Archive", "gone", "I", false)
def xt_Archive : Nat → FieldType := fun k => match k with
  | 0 => .array (.object "OnionCourt$Witness")
  | 1 => .array (.object "OnionCourt$Answer")
  | 2 => .int
  | 3 => .int
  | 4 => .int
  | 5 => .int
  | _ => .int
theorem xn_Archive : ∀ a, a < 7 → ∀ b, b < 7 → a ≠ b → (xf_Archive a).2.1 ≠ (xf_Archive b).2.1 := by decide +kernel
theorem xt_Archive_ok : ∀ k, k < 7 → parseFieldDescriptor (xf_Archive k).2.2.1 = some (xt_Archive k) := by decide +kernel
theorem xi_Archive_ok : ∀ k, k < 7 → ([276, 278, 280, 282, 284, 286, 288] : List Nat)[k]?.bind (fun i => xv_T[i]?) = some (u_lay "OnionCourt$Archive" xf_Archive k) := by decide +kernel
theorem xi_Archive : ∀ w ∈ u_ws "OnionCourt$Archive" xf_Archive 7, w ∈ xv_T := fun w h => xv_wsin (fun k hk => xi_Archive_ok k hk) w h
def xf_Witness : u_T := fun k => match k with
  | 0 => ("OnionCourt$Witness", "strengths", "[I", true)
  | 1 => ("OnionCourt$Witness", "layers", "I", false)
  | 2 => ("OnionCourt$Witness", "honesty", "I", false)
  | _ => ("OnionCourt$Witness", "told", "Z", false)
def xt_Witness : Nat → FieldType := fun k => match k with
  | 0 => .array .int
  | 1 => .int
  | 2 => .int
  | _ => .boolean
theorem xn_Witness : ∀ a, a < 4 → ∀ b, b < 4 → a ≠ b → (xf_Witness a).2.1 ≠ (xf_Witness b).2.1 := by decide +kernel
theorem xt_Witness_ok : ∀ k, k < 4 → parseFieldDescriptor (xf_Witness k).2.2.1 = some (xt_Witness k) := by decide +kernel
theorem xi_Witness_ok : ∀ k, k < 4 → ([230, 232, 234, 236] : List Nat)[k]?.bind (fun i => xv_T[i]?) = some (u_lay "OnionCourt$Witness" xf_Witness k) := by decide +kernel
theorem xi_Witness : ∀ w ∈ u_ws "OnionCourt$Witness" xf_Witness 4, w ∈ xv_T := fun w h => xv_wsin (fun k hk => xi_Witness_ok k hk) w h
def xf_Answer : u_T := fun k => match k with
  | 0 => ("OnionCourt$Answer", "witness", "I", false)
  | 1 => ("OnionCourt$Answer", "question", "I", false)
  | 2 => ("OnionCourt$Answer", "yes", "Z", false)
  | 3 => ("OnionCourt$Answer", "cried", "Z", false)
  | 4 => ("OnionCourt$Answer", "strength", "I", false)
  | 5 => ("OnionCourt$Answer", "layers", "I", false)
  | 6 => ("OnionCourt$Answer", "week", "I", false)
  | _ => ("OnionCourt$Answer", "honesty", "I", false)
def xt_Answer : Nat → FieldType := fun k => match k with
  | 0 => .int
  | 1 => .int
  | 2 => .boolean
  | 3 => .boolean
  | 4 => .int
  | 5 => .int
  | 6 => .int
  | _ => .int
theorem xn_Answer : ∀ a, a < 8 → ∀ b, b < 8 → a ≠ b → (xf_Answer a).2.1 ≠ (xf_Answer b).2.1 := by decide +kernel
theorem xt_Answer_ok : ∀ k, k < 8 → parseFieldDescriptor (xf_Answer k).2.2.1 = some (xt_Answer k) := by decide +kernel
theorem xi_Answer_ok : ∀ k, k < 8 → ([252, 254, 256, 258, 260, 262, 264, 266] : List Nat)[k]?.bind (fun i => xv_T[i]?) = some (u_lay "OnionCourt$Answer" xf_Answer k) := by decide +kernel
theorem xi_Answer : ∀ w ∈ u_ws "OnionCourt$Answer" xf_Answer 8, w ∈ xv_T := fun w h => xv_wsin (fun k hk => xi_Answer_ok k hk) w h
def xf_Boxes : u_T := fun k => match k with
  | 0 => ("OnionCourt$Boxes", "sizes", "[I", true)
  | 1 => ("OnionCourt$Boxes", "row", "[I", true)
  | 2 => ("OnionCourt$Boxes", "loads", "[I", true)
  | 3 => ("OnionCourt$Boxes", "skins", "I", false)
  | _ => ("OnionCourt$Boxes", "room", "I", false)
def xt_Boxes : Nat → FieldType := fun k => match k with
  | 0 => .array .int
  | 1 => .array .int
  | 2 => .array .int
  | 3 => .int
  | _ => .int
theorem xn_Boxes : ∀ a, a < 5 → ∀ b, b < 5 → a ≠ b → (xf_Boxes a).2.1 ≠ (xf_Boxes b).2.1 := by decide +kernel
theorem xt_Boxes_ok : ∀ k, k < 5 → parseFieldDescriptor (xf_Boxes k).2.2.1 = some (xt_Boxes k) := by decide +kernel
theorem xi_Boxes_ok : ∀ k, k < 5 → ([304, 306, 308, 310, 312] : List Nat)[k]?.bind (fun i => xv_T[i]?) = some (u_lay "OnionCourt$Boxes" xf_Boxes k) := by decide +kernel
theorem xi_Boxes : ∀ w ∈ u_ws "OnionCourt$Boxes" xf_Boxes 5, w ∈ xv_T := fun w h => xv_wsin (fun k hk => xi_Boxes_ok k hk) w h
def xf_Exchange : u_T := fun k => match k with
  | 0 => ("OnionCourt$Exchange", "members", "[I", true)
  | 1 => ("OnionCourt$Exchange", "honesties", "[I", true)
  | 2 => ("OnionCourt$Exchange", "onions", "[I", true)
  | 3 => ("OnionCourt$Exchange", "row", "[I", true)
  | 4 => ("OnionCourt$Exchange", "best", "[I", true)
  | 5 => ("OnionCourt$Exchange", "size", "I", false)
  | _ => ("OnionCourt$Exchange", "most", "I", false)
def xt_Exchange : Nat → FieldType := fun k => match k with
  | 0 => .array .int
  | 1 => .array .int
  | 2 => .array .int
  | 3 => .array .int
  | 4 => .array .int
  | 5 => .int
  | _ => .int
theorem xn_Exchange : ∀ a, a < 7 → ∀ b, b < 7 → a ≠ b → (xf_Exchange a).2.1 ≠ (xf_Exchange b).2.1 := by decide +kernel
theorem xt_Exchange_ok : ∀ k, k < 7 → parseFieldDescriptor (xf_Exchange k).2.2.1 = some (xt_Exchange k) := by decide +kernel
theorem xi_Exchange_ok : ∀ k, k < 7 → ([328, 330, 332, 334, 336, 338, 340] : List Nat)[k]?.bind (fun i => xv_T[i]?) = some (u_lay "OnionCourt$Exchange" xf_Exchange k) := by decide +kernel
theorem xi_Exchange : ∀ w ∈ u_ws "OnionCourt$Exchange" xf_Exchange 7, w ∈ xv_T := fun w h => xv_wsin (fun k hk => xi_Exchange_ok k hk) w h
def xv_cl : List vw_C := [("OnionCourtModel", xf_Mo, 52), ("OnionCourt", xf_Ct, 14), ("OnionCourt$Tape", xf_Tape, 5), ("OnionCourt$Questions", xf_Questions, 2), ("OnionCourt$Law", xf_Law, 9), ("OnionCourt$Case", xf_Case, 8), ("OnionCourt$Scales", xf_Scales, 2), ("OnionCourt$Archive", xf_Archive, 7), ("OnionCourt$Witness", xf_Witness, 4), ("OnionCourt$Answer", xf_Answer, 8), ("OnionCourt$Boxes", xf_Boxes, 5), ("OnionCourt$Exchange", xf_Exchange, 7)]
/-- what a class of the list is known for -/
theorem xv_cl_ok : ∀ (ci : Nat) (q : vw_C), xv_cl[ci]? = some q → (∀ w ∈ u_ws q.1 q.2.1 q.2.2, w ∈ xv_T) ∧ (∃ ty : Nat → FieldType, ∀ k, k < q.2.2 → parseFieldDescriptor (q.2.1 k).2.2.1 = some (ty k)) ∧ (∀ a, a < q.2.2 → ∀ b, b < q.2.2 → a ≠ b → (q.2.1 a).2.1 ≠ (q.2.1 b).2.1) := by
  intro ci q h
  match ci, h with
  | 0, h => cases h; exact ⟨xi_Mo, ⟨xt_Mo, xt_Mo_ok⟩, xn_Mo⟩
  | 1, h => cases h; exact ⟨xi_Ct, ⟨xt_Ct, xt_Ct_ok⟩, xn_Ct⟩
  | 2, h => cases h; exact ⟨xi_Tape, ⟨xt_Tape, xt_Tape_ok⟩, xn_Tape⟩
  | 3, h => cases h; exact ⟨xi_Questions, ⟨xt_Questions, xt_Questions_ok⟩, xn_Questions⟩
  | 4, h => cases h; exact ⟨xi_Law, ⟨xt_Law, xt_Law_ok⟩, xn_Law⟩
  | 5, h => cases h; exact ⟨xi_Case, ⟨xt_Case, xt_Case_ok⟩, xn_Case⟩
  | 6, h => cases h; exact ⟨xi_Scales, ⟨xt_Scales, xt_Scales_ok⟩, xn_Scales⟩
  | 7, h => cases h; exact ⟨xi_Archive, ⟨xt_Archive, xt_Archive_ok⟩, xn_Archive⟩
  | 8, h => cases h; exact ⟨xi_Witness, ⟨xt_Witness, xt_Witness_ok⟩, xn_Witness⟩
  | 9, h => cases h; exact ⟨xi_Answer, ⟨xt_Answer, xt_Answer_ok⟩, xn_Answer⟩
  | 10, h => cases h; exact ⟨xi_Boxes, ⟨xt_Boxes, xt_Boxes_ok⟩, xn_Boxes⟩
  | 11, h => cases h; exact ⟨xi_Exchange, ⟨xt_Exchange, xt_Exchange_ok⟩, xn_Exchange⟩
  | k + 12, h => simp [xv_cl] at h
