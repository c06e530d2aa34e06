/-! classes whose objects the worlds hold -/
def RM : String := "EditorServerModel"
def FM : u_T := fun k => match k with
  | 0 => ("EditorServerModel", "state", "I", false)
  | 1 => ("EditorServerModel", "outCode", "I", false)
  | 2 => ("EditorServerModel", "bodies", "I", false)
  | 3 => ("EditorServerModel", "digits", "I", false)
  | 4 => ("EditorServerModel", "size", "I", false)
  | 5 => ("EditorServerModel", "missing", "I", false)
  | 6 => ("EditorServerModel", "got", "I", false)
  | 7 => ("EditorServerModel", "body", "[I", true)
  | 8 => ("EditorServerModel", "values", "I", false)
  | 9 => ("EditorServerModel", "sort", "[I", true)
  | 10 => ("EditorServerModel", "number", "[I", true)
  | 11 => ("EditorServerModel", "begin", "[I", true)
  | 12 => ("EditorServerModel", "count", "[I", true)
  | 13 => ("EditorServerModel", "inside", "[I", true)
  | 14 => ("EditorServerModel", "nameBegin", "[I", true)
  | 15 => ("EditorServerModel", "nameCount", "[I", true)
  | 16 => ("EditorServerModel", "pool", "[I", true)
  | 17 => ("EditorServerModel", "pooled", "I", false)
  | 18 => ("EditorServerModel", "open", "[I", true)
  | 19 => ("EditorServerModel", "depth", "I", false)
  | 20 => ("EditorServerModel", "at", "I", false)
  | 21 => ("EditorServerModel", "due", "I", false)
  | 22 => ("EditorServerModel", "documents", "I", false)
  | 23 => ("EditorServerModel", "nameLength", "[I", true)
  | 24 => ("EditorServerModel", "names", "[I", true)
  | 25 => ("EditorServerModel", "versions", "[I", true)
  | 26 => ("EditorServerModel", "lengths", "[I", true)
  | 27 => ("EditorServerModel", "texts", "[I", true)
  | 28 => ("EditorServerModel", "work", "[I", true)
  | 29 => ("EditorServerModel", "worked", "I", false)
  | 30 => ("EditorServerModel", "ignored", "I", false)
  | 31 => ("EditorServerModel", "waiting", "I", false)
  | 32 => ("EditorServerModel", "waitId", "[I", true)
  | 33 => ("EditorServerModel", "waitKind", "[I", true)
  | 34 => ("EditorServerModel", "waitA", "[I", true)
  | 35 => ("EditorServerModel", "waitB", "[I", true)
  | 36 => ("EditorServerModel", "waitLength", "[I", true)
  | 37 => ("EditorServerModel", "waitText", "[I", true)
  | 38 => ("EditorServerModel", "responses", "I", false)
  | 39 => ("EditorServerModel", "id", "[I", true)
  | 40 => ("EditorServerModel", "hasId", "[Z", true)
  | 41 => ("EditorServerModel", "isResult", "[Z", true)
  | 42 => ("EditorServerModel", "said", "[I", true)
  | 43 => ("EditorServerModel", "frame", "[I", true)
  | 44 => ("EditorServerModel", "framed", "I", false)
  | _ => ("EditorServerModel", "code", "I", false)
def tM : Nat → FieldType := fun k => match k with
  | 0 => .int
  | 1 => .int
  | 2 => .int
  | 3 => .int
  | 4 => .int
  | 5 => .int
  | 6 => .int
  | 7 => .array .int
  | 8 => .int
  | 9 => .array .int
  | 10 => .array .int
  | 11 => .array .int
  | 12 => .array .int
  | 13 => .array .int
  | 14 => .array .int
  | 15 => .array .int
  | 16 => .array .int
  | 17 => .int
  | 18 => .array .int
  | 19 => .int
  | 20 => .int
  | 21 => .int
  | 22 => .int
  | 23 => .array .int
  | 24 => .array .int
  | 25 => .array .int
  | 26 => .array .int
  | 27 => .array .int
  | 28 => .array .int
  | 29 => .int
  | 30 => .int
  | 31 => .int
  | 32 => .array .int
  | 33 => .array .int
  | 34 => .array .int
  | 35 => .array .int
  | 36 => .array .int
  | 37 => .array .int
  | 38 => .int
  | 39 => .array .int
  | 40 => .array .boolean
  | 41 => .array .boolean
  | 42 => .array .int
  | 43 => .array .int
  | 44 => .int
  | _ => .int
theorem nM_ok : ∀ a, a < 46 → ∀ b, b < 46 → a ≠ b → (FM a).2.1 ≠ (FM b).2.1 := by decide +kernel
theorem tM_ok : ∀ k, k < 46 → parseFieldDescriptor (FM k).2.2.1 = some (tM k) := by decide +kernel
theorem wM_in : ∀ w ∈ u_ws RM FM 46, w ∈ gW := by
  intro w hw
  obtain ⟨k, hk, rfl⟩ := List.mem_map.mp hw
  have hk := List.mem_range.mp hk
  match k, hk with
  | 0, _ => exact k_1060
  | 1, _ => exact k_1062
  | 2, _ => exact k_1064
  | 3, _ => exact k_1066
  | 4, _ => exact k_1068
  | 5, _ => exact k_1070
  | 6, _ => exact k_1072
  | 7, _ => exact k_1074
  | 8, _ => exact k_1076
  | 9, _ => exact k_1078
  | 10, _ => exact k_1080
  | 11, _ => exact k_1082
  | 12, _ => exact k_1084
  | 13, _ => exact k_1086
  | 14, _ => exact k_1088
  | 15, _ => exact k_1090
  | 16, _ => exact k_1092
  | 17, _ => exact k_1094
  | 18, _ => exact k_1096
  | 19, _ => exact k_1098
  | 20, _ => exact k_1100
  | 21, _ => exact k_1102
  | 22, _ => exact k_1104
  | 23, _ => exact k_1106
  | 24, _ => exact k_1108
  | 25, _ => exact k_1110
  | 26, _ => exact k_1112
  | 27, _ => exact k_1114
  | 28, _ => exact k_1116
  | 29, _ => exact k_1118
  | 30, _ => exact k_1120
  | 31, _ => exact k_1122
  | 32, _ => exact k_1124
  | 33, _ => exact k_1126
  | 34, _ => exact k_1128
  | 35, _ => exact k_1130
  | 36, _ => exact k_1132
  | 37, _ => exact k_1134
  | 38, _ => exact k_1136
  | 39, _ => exact k_1138
  | 40, _ => exact k_1140
  | 41, _ => exact k_1142
  | 42, _ => exact k_1144
  | 43, _ => exact k_1146
  | 44, _ => exact k_1148
  | 45, _ => exact k_1150
  | k + 46, h => omega
def RE : String := "EditorServer"
def FE : u_T := fun k => match k with
  | 0 => ("EditorServer", "frame", "LEditorServer$Frame;", true)
  | 1 => ("EditorServer", "values", "LEditorServer$Values;", true)
  | 2 => ("EditorServer", "shelf", "LEditorServer$Shelf;", true)
  | 3 => ("EditorServer", "queue", "LEditorServer$Queue;", true)
  | 4 => ("EditorServer", "answers", "LEditorServer$Answers;", true)
  | 5 => ("EditorServer", "phase", "I", false)
  | 6 => ("EditorServer", "exitCode", "I", false)
  | 7 => ("EditorServer", "bodies", "I", false)
  | _ => ("EditorServer", "ignoredCount", "I", false)
def tE : Nat → FieldType := fun k => match k with
  | 0 => .object "EditorServer$Frame"
  | 1 => .object "EditorServer$Values"
  | 2 => .object "EditorServer$Shelf"
  | 3 => .object "EditorServer$Queue"
  | 4 => .object "EditorServer$Answers"
  | 5 => .int
  | 6 => .int
  | 7 => .int
  | _ => .int
theorem nE_ok : ∀ a, a < 9 → ∀ b, b < 9 → a ≠ b → (FE a).2.1 ≠ (FE b).2.1 := by decide +kernel
theorem tE_ok : ∀ k, k < 9 → parseFieldDescriptor (FE k).2.2.1 = some (tE k) := by decide +kernel
theorem wE_in : ∀ w ∈ u_ws RE FE 9, w ∈ gW := by
  intro w hw
  obtain ⟨k, hk, rfl⟩ := List.mem_map.mp hw
  have hk := List.mem_range.mp hk
  match k, hk with
  | 0, _ => exact k_293
  | 1, _ => exact k_295
  | 2, _ => exact k_297
  | 3, _ => exact k_299
  | 4, _ => exact k_301
  | 5, _ => exact k_303
  | 6, _ => exact k_305
  | 7, _ => exact k_307
  | 8, _ => exact k_309
  | k + 9, h => omega
def RF : String := "EditorServer$Frame"
def FF : u_T := fun k => match k with
  | 0 => ("EditorServer$Frame", "body", "[C", true)
  | 1 => ("EditorServer$Frame", "inBody", "Z", false)
  | 2 => ("EditorServer$Frame", "broken", "Z", false)
  | 3 => ("EditorServer$Frame", "digits", "I", false)
  | 4 => ("EditorServer$Frame", "announced", "I", false)
  | _ => ("EditorServer$Frame", "filled", "I", false)
def tF : Nat → FieldType := fun k => match k with
  | 0 => .array .char
  | 1 => .boolean
  | 2 => .boolean
  | 3 => .int
  | 4 => .int
  | _ => .int
theorem nF_ok : ∀ a, a < 6 → ∀ b, b < 6 → a ≠ b → (FF a).2.1 ≠ (FF b).2.1 := by decide +kernel
theorem tF_ok : ∀ k, k < 6 → parseFieldDescriptor (FF k).2.2.1 = some (tF k) := by decide +kernel
theorem wF_in : ∀ w ∈ u_ws RF FF 6, w ∈ gW := by
  intro w hw
  obtain ⟨k, hk, rfl⟩ := List.mem_map.mp hw
  have hk := List.mem_range.mp hk
  match k, hk with
  | 0, _ => exact k_50
  | 1, _ => exact k_52
  | 2, _ => exact k_54
  | 3, _ => exact k_56
  | 4, _ => exact k_58
  | 5, _ => exact k_60
  | k + 6, h => omega
def RV : String := "EditorServer$Values"
def FV : u_T := fun k => match k with
  | 0 => ("EditorServer$Values", "kinds", "[I", true)
  | 1 => ("EditorServer$Values", "numbers", "[I", true)
  | 2 => ("EditorServer$Values", "starts", "[I", true)
  | 3 => ("EditorServer$Values", "sizes", "[I", true)
  | 4 => ("EditorServer$Values", "afters", "[I", true)
  | 5 => ("EditorServer$Values", "nameStarts", "[I", true)
  | 6 => ("EditorServer$Values", "nameSizes", "[I", true)
  | 7 => ("EditorServer$Values", "letters", "[C", true)
  | 8 => ("EditorServer$Values", "source", "[C", true)
  | 9 => ("EditorServer$Values", "sourceSize", "I", false)
  | 10 => ("EditorServer$Values", "at", "I", false)
  | 11 => ("EditorServer$Values", "count", "I", false)
  | _ => ("EditorServer$Values", "lettersUsed", "I", false)
def tV : Nat → FieldType := fun k => match k with
  | 0 => .array .int
  | 1 => .array .int
  | 2 => .array .int
  | 3 => .array .int
  | 4 => .array .int
  | 5 => .array .int
  | 6 => .array .int
  | 7 => .array .char
  | 8 => .array .char
  | 9 => .int
  | 10 => .int
  | 11 => .int
  | _ => .int
theorem nV_ok : ∀ a, a < 13 → ∀ b, b < 13 → a ≠ b → (FV a).2.1 ≠ (FV b).2.1 := by decide +kernel
theorem tV_ok : ∀ k, k < 13 → parseFieldDescriptor (FV k).2.2.1 = some (tV k) := by decide +kernel
theorem wV_in : ∀ w ∈ u_ws RV FV 13, w ∈ gW := by
  intro w hw
  obtain ⟨k, hk, rfl⟩ := List.mem_map.mp hw
  have hk := List.mem_range.mp hk
  match k, hk with
  | 0, _ => exact k_83
  | 1, _ => exact k_85
  | 2, _ => exact k_87
  | 3, _ => exact k_89
  | 4, _ => exact k_91
  | 5, _ => exact k_93
  | 6, _ => exact k_95
  | 7, _ => exact k_97
  | 8, _ => exact k_99
  | 9, _ => exact k_101
  | 10, _ => exact k_103
  | 11, _ => exact k_105
  | 12, _ => exact k_107
  | k + 13, h => omega
def RS : String := "EditorServer$Shelf"
def FS : u_T := fun k => match k with
  | 0 => ("EditorServer$Shelf", "rows", "[LEditorServer$Document;", true)
  | 1 => ("EditorServer$Shelf", "draft", "LEditorServer$Text;", true)
  | _ => ("EditorServer$Shelf", "count", "I", false)
def tS : Nat → FieldType := fun k => match k with
  | 0 => .array (.object "EditorServer$Document")
  | 1 => .object "EditorServer$Text"
  | _ => .int
theorem nS_ok : ∀ a, a < 3 → ∀ b, b < 3 → a ≠ b → (FS a).2.1 ≠ (FS b).2.1 := by decide +kernel
theorem tS_ok : ∀ k, k < 3 → parseFieldDescriptor (FS k).2.2.1 = some (tS k) := by decide +kernel
theorem wS_in : ∀ w ∈ u_ws RS FS 3, w ∈ gW := by
  intro w hw
  obtain ⟨k, hk, rfl⟩ := List.mem_map.mp hw
  have hk := List.mem_range.mp hk
  match k, hk with
  | 0, _ => exact k_168
  | 1, _ => exact k_170
  | 2, _ => exact k_172
  | k + 3, h => omega
def RD : String := "EditorServer$Document"
def FD : u_T := fun k => match k with
  | 0 => ("EditorServer$Document", "title", "[C", true)
  | 1 => ("EditorServer$Document", "content", "LEditorServer$Text;", true)
  | 2 => ("EditorServer$Document", "titleSize", "I", false)
  | _ => ("EditorServer$Document", "version", "I", false)
def tD : Nat → FieldType := fun k => match k with
  | 0 => .array .char
  | 1 => .object "EditorServer$Text"
  | 2 => .int
  | _ => .int
theorem nD_ok : ∀ a, a < 4 → ∀ b, b < 4 → a ≠ b → (FD a).2.1 ≠ (FD b).2.1 := by decide +kernel
theorem tD_ok : ∀ k, k < 4 → parseFieldDescriptor (FD k).2.2.1 = some (tD k) := by decide +kernel
theorem wD_in : ∀ w ∈ u_ws RD FD 4, w ∈ gW := by
  intro w hw
  obtain ⟨k, hk, rfl⟩ := List.mem_map.mp hw
  have hk := List.mem_range.mp hk
  match k, hk with
  | 0, _ => exact k_154
  | 1, _ => exact k_156
  | 2, _ => exact k_158
  | 3, _ => exact k_160
  | k + 4, h => omega
def RT : String := "EditorServer$Text"
def FT : u_T := fun k => match k with
  | 0 => ("EditorServer$Text", "letters", "[C", true)
  | _ => ("EditorServer$Text", "size", "I", false)
def tT : Nat → FieldType := fun k => match k with
  | 0 => .array .char
  | _ => .int
theorem nT_ok : ∀ a, a < 2 → ∀ b, b < 2 → a ≠ b → (FT a).2.1 ≠ (FT b).2.1 := by decide +kernel
theorem tT_ok : ∀ k, k < 2 → parseFieldDescriptor (FT k).2.2.1 = some (tT k) := by decide +kernel
theorem wT_in : ∀ w ∈ u_ws RT FT 2, w ∈ gW := by
  intro w hw
  obtain ⟨k, hk, rfl⟩ := List.mem_map.mp hw
  have hk := List.mem_range.mp hk
  match k, hk with
  | 0, _ => exact k_132
  | 1, _ => exact k_134
  | k + 2, h => omega
def RQ : String := "EditorServer$Queue"
def FQ : u_T := fun k => match k with
  | 0 => ("EditorServer$Queue", "rows", "[LEditorServer$Asked;", true)
  | _ => ("EditorServer$Queue", "count", "I", false)
def tQ : Nat → FieldType := fun k => match k with
  | 0 => .array (.object "EditorServer$Asked")
  | _ => .int
theorem nQ_ok : ∀ a, a < 2 → ∀ b, b < 2 → a ≠ b → (FQ a).2.1 ≠ (FQ b).2.1 := by decide +kernel
theorem tQ_ok : ∀ k, k < 2 → parseFieldDescriptor (FQ k).2.2.1 = some (tQ k) := by decide +kernel
theorem wQ_in : ∀ w ∈ u_ws RQ FQ 2, w ∈ gW := by
  intro w hw
  obtain ⟨k, hk, rfl⟩ := List.mem_map.mp hw
  have hk := List.mem_range.mp hk
  match k, hk with
  | 0, _ => exact k_216
  | 1, _ => exact k_218
  | k + 2, h => omega
def RK : String := "EditorServer$Asked"
def FK : u_T := fun k => match k with
  | 0 => ("EditorServer$Asked", "content", "LEditorServer$Text;", true)
  | 1 => ("EditorServer$Asked", "id", "I", false)
  | 2 => ("EditorServer$Asked", "kind", "I", false)
  | 3 => ("EditorServer$Asked", "wanted", "C", false)
  | 4 => ("EditorServer$Asked", "line", "I", false)
  | _ => ("EditorServer$Asked", "units", "I", false)
def tK : Nat → FieldType := fun k => match k with
  | 0 => .object "EditorServer$Text"
  | 1 => .int
  | 2 => .int
  | 3 => .char
  | 4 => .int
  | _ => .int
theorem nK_ok : ∀ a, a < 6 → ∀ b, b < 6 → a ≠ b → (FK a).2.1 ≠ (FK b).2.1 := by decide +kernel
theorem tK_ok : ∀ k, k < 6 → parseFieldDescriptor (FK k).2.2.1 = some (tK k) := by decide +kernel
theorem wK_in : ∀ w ∈ u_ws RK FK 6, w ∈ gW := by
  intro w hw
  obtain ⟨k, hk, rfl⟩ := List.mem_map.mp hw
  have hk := List.mem_range.mp hk
  match k, hk with
  | 0, _ => exact k_199
  | 1, _ => exact k_201
  | 2, _ => exact k_203
  | 3, _ => exact k_205
  | 4, _ => exact k_207
  | 5, _ => exact k_209
  | k + 6, h => omega
def RN : String := "EditorServer$Answers"
def FN : u_T := fun k => match k with
  | 0 => ("EditorServer$Answers", "ids", "[I", true)
  | 1 => ("EditorServer$Answers", "withId", "[Z", true)
  | 2 => ("EditorServer$Answers", "withResult", "[Z", true)
  | 3 => ("EditorServer$Answers", "contents", "[I", true)
  | 4 => ("EditorServer$Answers", "line", "Ljava/lang/StringBuilder;", true)
  | _ => ("EditorServer$Answers", "count", "I", false)
def tN : Nat → FieldType := fun k => match k with
  | 0 => .array .int
  | 1 => .array .boolean
  | 2 => .array .boolean
  | 3 => .array .int
  | 4 => .object "java/lang/StringBuilder"
  | _ => .int
theorem nN_ok : ∀ a, a < 6 → ∀ b, b < 6 → a ≠ b → (FN a).2.1 ≠ (FN b).2.1 := by decide +kernel
theorem tN_ok : ∀ k, k < 6 → parseFieldDescriptor (FN k).2.2.1 = some (tN k) := by decide +kernel
theorem wN_in : ∀ w ∈ u_ws RN FN 6, w ∈ gW := by
  intro w hw
  obtain ⟨k, hk, rfl⟩ := List.mem_map.mp hw
  have hk := List.mem_range.mp hk
  match k, hk with
  | 0, _ => exact k_271
  | 1, _ => exact k_273
  | 2, _ => exact k_275
  | 3, _ => exact k_277
  | 4, _ => exact k_279
  | 5, _ => exact k_281
  | k + 6, h => omega
def RB : String := "java/lang/StringBuilder"
def FB : u_T := fun k => match k with
  | 0 => ("java/lang/AbstractStringBuilder", "value", "[B", false)
  | 1 => ("java/lang/AbstractStringBuilder", "coder", "B", false)
  | 2 => ("java/lang/AbstractStringBuilder", "maybeLatin1", "Z", false)
  | _ => ("java/lang/AbstractStringBuilder", "count", "I", false)
def tB : Nat → FieldType := fun k => match k with
  | 0 => .array .byte
  | 1 => .byte
  | 2 => .boolean
  | _ => .int
theorem nB_ok : ∀ a, a < 4 → ∀ b, b < 4 → a ≠ b → (FB a).2.1 ≠ (FB b).2.1 := by decide +kernel
theorem tB_ok : ∀ k, k < 4 → parseFieldDescriptor (FB k).2.2.1 = some (tB k) := by decide +kernel
theorem wB_in : ∀ w ∈ u_ws RB FB 4, w ∈ gW := by
  intro w hw
  obtain ⟨k, hk, rfl⟩ := List.mem_map.mp hw
  have hk := List.mem_range.mp hk
  match k, hk with
  | 0, _ => exact k_249
  | 1, _ => exact k_251
  | 2, _ => exact k_253
  | 3, _ => exact k_255
  | k + 4, h => omega
abbrev mCl : List vw_C := [(RM, FM, 46), (RE, FE, 9), (RF, FF, 6), (RV, FV, 13), (RS, FS, 3), (RD, FD, 4), (RT, FT, 2), (RQ, FQ, 2), (RK, FK, 6), (RN, FN, 6), (RB, FB, 4)]
def tyL (tk : Nat → ClassId) : List (ClassId × FieldType) := [(tk 0, .int), (tk 1, .char), (tk 2, .boolean), (tk 3, .byte), (tk 4, .object "EditorServer$Document"), (tk 5, .object "EditorServer$Asked"), (tk 6, .long)]
def Cls (ci : Nat) (C : String) (T : u_T) (N : Nat) (ty : Nat → FieldType) : Prop := mCl[ci]? = some (C, T, N) ∧ (∀ w ∈ u_ws C T N, w ∈ gW) ∧ (∀ k, k < N → parseFieldDescriptor (T k).2.2.1 = some (ty k)) ∧ (∀ a, a < N → ∀ b, b < N → a ≠ b → (T a).2.1 ≠ (T b).2.1)
theorem cM : Cls 0 RM FM 46 tM := ⟨rfl, wM_in, tM_ok, nM_ok⟩
theorem cE : Cls 1 RE FE 9 tE := ⟨rfl, wE_in, tE_ok, nE_ok⟩
theorem cF : Cls 2 RF FF 6 tF := ⟨rfl, wF_in, tF_ok, nF_ok⟩
theorem cV : Cls 3 RV FV 13 tV := ⟨rfl, wV_in, tV_ok, nV_ok⟩
theorem cS : Cls 4 RS FS 3 tS := ⟨rfl, wS_in, tS_ok, nS_ok⟩
theorem cD : Cls 5 RD FD 4 tD := ⟨rfl, wD_in, tD_ok, nD_ok⟩
theorem cT : Cls 6 RT FT 2 tT := ⟨rfl, wT_in, tT_ok, nT_ok⟩
theorem cQ : Cls 7 RQ FQ 2 tQ := ⟨rfl, wQ_in, tQ_ok, nQ_ok⟩
theorem cK : Cls 8 RK FK 6 tK := ⟨rfl, wK_in, tK_ok, nK_ok⟩
theorem cN : Cls 9 RN FN 6 tN := ⟨rfl, wN_in, tN_ok, nN_ok⟩
theorem cB : Cls 10 RB FB 4 tB := ⟨rfl, wB_in, tB_ok, nB_ok⟩
/-! the String constants: class, entry, text, bytes -/
def sownL : List String := ["EditorServer$Values", "EditorServer$Values", "EditorServer$Values", "EditorServer", "EditorServer", "EditorServer", "EditorServer", "EditorServer", "EditorServer", "EditorServer", "EditorServer", "EditorServer", "EditorServer", "EditorServer", "EditorServer", "EditorServer", "EditorServer", "EditorServer$Shelf", "EditorServer", "EditorServer$Shelf", "EditorServer", "EditorServer$Shelf", "EditorServer$Shelf", "EditorServer", "EditorServer", "EditorServer$Answers", "EditorServer$Answers", "EditorServer$Answers", "EditorServer$Answers"]
def sidxL : List Nat := [82, 88, 90, 178, 183, 218, 220, 222, 224, 226, 259, 267, 269, 216, 204, 271, 276, 33, 281, 52, 285, 54, 87, 289, 293, 60, 65, 67, 69]
def stxtL : List String := ["true", "false", "null", "id", "method", "length", "index", "at", "lines", "params", "ss", "snn", "s", "shutdown", ("initial" ++ "ize"), "exit", "open", "sns", "close", "s", "change", "sn*", "nnnns", "cancel", "n", "{\"id\":", "null", ",\"result\":", ",\"error\":"]
def sbytL : List (List Int32) := [[116, 114, 117, 101], [102, 97, 108, 115, 101], [110, 117, 108, 108], [105, 100], [109, 101, 116, 104, 111, 100], [108, 101, 110, 103, 116, 104], [105, 110, 100, 101, 120], [97, 116], [108, 105, 110, 101, 115], [112, 97, 114, 97, 109, 115], [115, 115], [115, 110, 110], [115], [115, 104, 117, 116, 100, 111, 119, 110], [105, 110, 105, 116, 105, 97, 108, 105, 122, 101], [101, 120, 105, 116], [111, 112, 101, 110], [115, 110, 115], [99, 108, 111, 115, 101], [115], [99, 104, 97, 110, 103, 101], [115, 110, 42], [110, 110, 110, 110, 115], [99, 97, 110, 99, 101, 108], [110], [123, 34, 105, 100, 34, 58], [110, 117, 108, 108], [44, 34, 114, 101, 115, 117, 108, 116, 34, 58], [44, 34, 101, 114, 114, 111, 114, 34, 58]]
def sown (i : Nat) : String := sownL.getD i ""
def sidx (i : Nat) : Nat := sidxL.getD i 0
def stxt (i : Nat) : String := stxtL.getD i ""
def slen (i : Nat) : Nat := (sbytL.getD i []).length
def sbyt (i j : Nat) : Int32 := (sbytL.getD i []).getD j 0
/-- a static of Throwable that holds a reference or null, with its place in the class's cell -/
def TS (n d : String) (A : Nat → Prop) (U : State) (H : Heap) : Prop := ∃ (cf : ClassId) (kf : Class) (fi : Nat) (f : Field) (a : Nat) (cell : Cell), U.vm.findClass "java/lang/Throwable" = some cf ∧ U.fieldFound? "java/lang/Throwable" n d = some (cf, kf, fi, f) ∧ f.isStatic = true ∧ kf.statics = some a ∧ H[a]? = some cell ∧ cell.vm.isStatics = true ∧ cell.cls = cf ∧ f.slot < cell.slots.size ∧ kf.staticTypes[f.slot]? = some f.type ∧ (cell.slots[f.slot]? = some .null ∨ ∃ t : Nat, cell.slots[f.slot]? = some (.ref t)) ∧ ¬ A a
theorem TS.moved {n d : String} {A : Nat → Prop} {u U : State} {H : Heap} (hvm : u.vm.Alike U.vm) (h : TS n d A u H) : TS n d A U H := by
  obtain ⟨cf, kf, fi, f, a, cell, h0, h1, h2, h3, h4, h5, h6, h7, h8, h9⟩ := h
  obtain ⟨k', hi', he⟩ := State.fieldFound?_setVm hvm h1
  exact ⟨cf, k', fi, f, a, cell, by rw [hvm.findClass]; exact h0, hi', h2, by rw [he]; exact h3, h4, h5, h6, h7, by rw [he]; exact h8, h9⟩
theorem TS.kept {n d : String} {A : Nat → Prop} {U : State} {H H1 : Heap} (h : TS n d A U H) (hq : ∀ a : Nat, a < H.size → ¬ A a → H1[a]? = H[a]?) : TS n d A U H1 := by
  obtain ⟨cf, kf, fi, f, a, cell, h0, h1, h2, h3, h4, h5, h6, h7, h8, h9, h10⟩ := h
  exact ⟨cf, kf, fi, f, a, cell, h0, h1, h2, h3, by rw [hq a (Array.getElem?_eq_some_iff.mp h4).1 h10]; exact h4, h5, h6, h7, h8, h9, h10⟩
theorem TS.ref {n d : String} {A : Nat → Prop} {args : Array Value} {s : State} (h : TS n d A s s.heap) : (Cond.isRef (.static "java/lang/Throwable" n d)).before args s = true := by
  obtain ⟨cf, kf, fi, f, a, cell, h0, h1, h2, h3, h4, h5, h6, h7, h8, h9, h10⟩ := h
  rcases h9 with h9 | ⟨t, h9⟩ <;> simp [Cond.before, Cond.holds, Cond.value, Term.eval, State.fieldNamed?, h1, h2, h3, h4, h5, h9]
theorem TS.lays {n d : String} {A : Nat → Prop} {args : Array Value} {s : State} (h : TS n d A s s.heap) : (Cond.laysStatic "java/lang/Throwable" n d).before args s = true := by
  obtain ⟨cf, kf, fi, f, a, cell, h0, h1, h2, h3, h4, h5, h6, h7, h8, h9, h10⟩ := h
  simp [Cond.before, Cond.holds, Cond.value, h0, h1, h2, h3, h4, h5, h6, h7, h8]
theorem TS.of {n d : String} {A : Nat → Prop} {args : Array Value} {s : State} (h : (Cond.isRef (.static "java/lang/Throwable" n d)).before args s = true) (hl : (Cond.laysStatic "java/lang/Throwable" n d).before args s = true) (hA : ∀ a : Nat, a < s.heap.size → ¬ A a) : TS n d A s s.heap := by
  simp only [Cond.before, Cond.holds, Cond.value] at hl
  cases h0 : s.vm.findClass "java/lang/Throwable" with
  | none => simp [h0] at hl
  | some cf =>
    cases h1 : s.fieldFound? "java/lang/Throwable" n d with
    | none => simp [h0, h1] at hl
    | some q =>
      obtain ⟨c2, kf, fi, f⟩ := q
      cases h3 : kf.statics with
      | none => simp [h0, h1, h3] at hl
      | some a =>
        cases h4 : s.heap[a]? with
        | none => simp [h0, h1, h3, h4] at hl
        | some cell =>
          simp [h0, h1, h3, h4] at hl
          obtain ⟨⟨⟨⟨⟨g1, g2⟩, g3⟩, g4⟩, g5⟩, g6⟩ := hl
          subst g2
          refine ⟨cf, kf, fi, f, a, cell, h0, h1, g1, h3, h4, g3, g4, g5, g6, ?_, hA a (Array.getElem?_eq_some_iff.mp h4).1⟩
          have hs : cell.slots[f.slot]? = some cell.slots[f.slot] := Array.getElem?_eq_getElem g5
          simp only [Cond.before, Cond.holds, Cond.value, Term.eval, State.fieldNamed?, h1] at h
          simp [g1, h3, h4, g3, hs] at h
          rw [hs]
          revert h
          cases cell.slots[f.slot] <;> simp
/-- an IllegalArgumentException is no IndexOutOfBoundsException -/
def NCa (U : State) : Prop := ∀ a b : ClassId, U.vm.findClass "java/lang/IllegalArgumentException" = some a → U.vm.findClass "java/lang/IndexOutOfBoundsException" = some b → U.vm.assignable a b = false
theorem NCa.moved {u U : State} (hvm : u.vm.Alike U.vm) (h : NCa u) : NCa U := by
  intro a b ha hb
  rw [hvm.findClass] at ha hb
  rw [hvm.assignable]
  exact h a b ha hb
/-- String constants (addresses dI 1000 i, their bytes' dI 1001 i), and what statics hold -/
def SG (dI : Nat → Nat → Nat) (A : Nat → Prop) (U : State) : Prop := (∀ i, i < 29 → va_O "java/lang/String" (dI 1000 i) A U U.heap ∧ va_OF "java/lang/String" "coder" "B" (.int 0) (dI 1000 i) A U U.heap ∧ va_OF "java/lang/String" "value" "[B" (.ref (dI 1001 i)) (dI 1000 i) A U U.heap ∧ va_T .byte (dI 1001 i) (slen i) (fun j => .int (sbyt i j)) A U U.heap ∧ vk_R (sown i) (sidx i) (stxt i) (dI 1000 i) U) ∧ va_Z "java/lang/String" "COMPACT_STRINGS" "Z" (.int 1) A U U.heap ∧ va_Zq "jdk/internal/util/Preconditions" "SIOOBE_FORMATTER" "Ljava/util/function/BiFunction;" A U U.heap ∧ va_Z "java/lang/Integer" "DigitOnes" "[B" (.ref (dI 1002 0)) A U U.heap ∧ va_T .byte (dI 1002 0) 100 (fun j => .int (nI (48 + j % 10))) A U U.heap ∧ va_Z "java/lang/Integer" "DigitTens" "[B" (.ref (dI 1002 1)) A U U.heap ∧ va_T .byte (dI 1002 1) 100 (fun j => .int (nI (48 + j / 10))) A U U.heap ∧ va_AO "EditorServer$Document" U ∧ va_AO "EditorServer$Asked" U ∧ TS "UNASSIGNED_STACK" "[Ljava/lang/StackTraceElement;" A U U.heap ∧ TS "SUPPRESSED_SENTINEL" "Ljava/util/List;" A U U.heap ∧ NCa U
theorem SG.move {dI : Nat → Nat → Nat} {A : Nat → Prop} {s U : State} (h : SG dI A s) (hk : ∀ a : Nat, a < s.heap.size → ¬ A a → U.heap[a]? = s.heap[a]?) (hW : s.WarmedH U.vm) : SG dI A U := by
  obtain ⟨h1, h2, h3, h4, h5, h6, h7, h8, h9, h10, h11, h12⟩ := h
  refine ⟨fun i hi => ?_, va_Z.moved hW.alike (h2.kept hk), va_Zq.moved hW.alike (h3.kept hk), va_Z.moved hW.alike (h4.kept hk), va_T.moved hW.alike (h5.kept hk), va_Z.moved hW.alike (h6.kept hk), va_T.moved hW.alike (h7.kept hk), va_AO.moved hW.alike h8, va_AO.moved hW.alike h9, TS.moved hW.alike (h10.kept hk), TS.moved hW.alike (h11.kept hk), h12.moved hW.alike⟩
  obtain ⟨q1, q2, q3, q4, q5⟩ := h1 i hi
  exact ⟨va_O.moved hW.alike (q1.kept hk), va_OF.moved hW.alike (q2.kept hk), va_OF.moved hW.alike (q3.kept hk), va_T.moved hW.alike (q4.kept hk), vk_R.warm hW q5⟩
theorem SG.blind {dI : Nat → Nat → Nat} {A : Nat → Prop} {U : State} {g : JFrame} {mk : MethodId} {a : Array Value} (h : SG dI A U) : SG dI A (U.calling g mk a) := by
  obtain ⟨h1, h2, h3, h4, h5, h6, h7, h8, h9, h10, h11, h12⟩ := h
  have al : U.vm.Alike (U.calling g mk a).vm := Vm.Alike.refl U.vm
  refine ⟨fun i hi => ?_, va_Z.moved al h2, va_Zq.moved al h3, va_Z.moved al h4, va_T.moved al h5, va_Z.moved al h6, va_T.moved al h7, va_AO.moved al h8, va_AO.moved al h9, TS.moved al h10, TS.moved al h11, h12.moved al⟩
  obtain ⟨q1, q2, q3, q4, q5⟩ := h1 i hi
  exact ⟨va_O.moved al q1, va_OF.moved al q2, va_OF.moved al q3, va_T.moved al q4, vk_R.same rfl q5⟩
/-- what holds at every method's start: new cells may be written, the classes' numbers, the nest words, the constants -/
def Gl (dC : Nat → ClassId) (dI : Nat → Nat → Nat) (tk : Nat → ClassId) (A : Nat → Prop) (U : State) : Prop := (∀ q : Nat, U.heap.size ≤ q → A q) ∧ va_K (dC, dI) mCl (tyL tk) U ∧ NW U ∧ SG dI A U
theorem Gl.move {dC : Nat → ClassId} {dI : Nat → Nat → Nat} {tk : Nat → ClassId} {A : Nat → Prop} {s U : State} {H : Heap} {locs : List Loc} (h : Gl dC dI tk A s) (hS : va_S A s.heap H locs) (hU : U.heap = H) (hW : s.WarmedH U.vm) : Gl dC dI tk A U := by
  subst hU
  exact ⟨fun q hq => h.1 q (Nat.le_trans hS.1 hq), va_K.moved hW.alike h.2.1, h.2.2.1.warm hW, h.2.2.2.move hS.2.1 hW⟩
theorem Gl.blind {dC : Nat → ClassId} {dI : Nat → Nat → Nat} {tk : Nat → ClassId} {A : Nat → Prop} {U : State} {g : JFrame} {mk : MethodId} {a : Array Value} (h : Gl dC dI tk A U) : Gl dC dI tk A (U.calling g mk a) := ⟨h.1, va_K.moved (u := U) (U := U.calling g mk a) (Vm.Alike.refl U.vm) h.2.1, h.2.2.1.same rfl, h.2.2.2.blind⟩
theorem Gl.nw {dC : Nat → ClassId} {dI : Nat → Nat → Nat} {tk : Nat → ClassId} {A : Nat → Prop} {s : State} (h : Gl dC dI tk A s) : NW s := h.2.2.1
def St (dC : Nat → ClassId) (dI : Nat → Nat → Nat) (A : Nat → Prop) (H0 H : Heap) (locs : List Loc) (ws : va_W) : Prop := va_P (dC, dI) mCl ws H ∧ va_D A ws ∧ va_S A H0 H locs
def Pr (dC : Nat → ClassId) (dI : Nat → Nat → Nat) (tk : Nat → ClassId) (A : Nat → Prop) (ws : va_W) (U : State) : Prop := Gl dC dI tk A U ∧ va_P (dC, dI) mCl ws U.heap ∧ va_D A ws
def rmo (fr lo : Nat) : Room := { frames := fr, cells := 0, slots := 0, locals := lo }
def Po (dC : Nat → ClassId) (dI : Nat → Nat → Nat) (A : Nat → Prop) (ws : va_W) (t : State) : Prop := va_P (dC, dI) mCl ws t.heap ∧ va_D A ws
theorem pr_S {dC : Nat → ClassId} {dI : Nat → Nat → Nat} {tk : Nat → ClassId} {A : Nat → Prop} {s : State} {H : Heap} {locs : List Loc} {ws : va_W} {av : List Value} (hg : Gl dC dI tk A s) (hst : St dC dI A s.heap H locs ws) : PreS s H (va_Pc av (Pr dC dI tk A ws)) av :=
  ⟨fun _ _ _ _ q => ⟨q.1, q.2.1.blind, q.2.2⟩, fun U hU hW => ⟨rfl, hg.move hst.2.2 hU hW, by rw [hU]; exact hst.1, hst.2.1⟩⟩
theorem pr_V {dC : Nat → ClassId} {dI : Nat → Nat → Nat} {tk : Nat → ClassId} {A : Nat → Prop} {s : State} {H : Heap} {locs : List Loc} {ws : va_W} {av : List Value} {b q0 ci : Nat} {C : String} {T : u_T} {N : Nat} {fs : List Value} (hg : Gl dC dI tk A s) (hst : St dC dI A s.heap H locs ws) (hc : mCl[ci]? = some (C, T, N)) (he : ws[q0]? = some (b, .inr (ci, fs))) : PreV s H C b (va_Pc (.ref b :: av) (Pr dC dI tk A ws)) av :=
  ⟨fun _ _ _ _ q => ⟨q.1, q.2.1.blind, q.2.2⟩, va_recv hg.2.1 hst.1 hc he, fun U hU hW => ⟨rfl, hg.move hst.2.2 hU hW, by rw [hU]; exact hst.1, hst.2.1⟩⟩
section RO
variable {p : Program} {l : Launch} {e : Env} {R : Room} {s : State} {m : MethodId} {args : Array Value} {below : List Frame} {meth : Method} {c : Code} {H : Heap} {locs : List Loc} {cells slots : Nat} {Q : State → Prop}
variable {cc : ByteArray} {pc : Nat} {ls : Array Slot} {rest : List Value} {dC : Nat → ClassId} {dI : Nat → Nat → Nat} {tk : Nat → ClassId} {A : Nat → Prop}
variable {ci h : Nat} {ks : List (Option Nat)} {sp : List (Nat × Nat)} {L : Nat → Nat} {g : aG} {ar : aA} {rw : va_W} {own C : String} {T : u_T} {N index : Nat} {ty : Nat → FieldType}
theorem cw_v {y : MethodName} {bytes : ByteArray} {maxL : Nat} {ret : Option FieldType} {rm : Room} (n : Nat) (hG : ∀ w ∈ gW, w.before args s = true) (h1 : Cond.methodLink own index y ∈ gW) (h2 : Cond.instanceMethod y ∈ gW) (h3 : Cond.selects C y y ∈ gW) (h4 : Cond.initialized C ∈ gW) (h5 : Cond.code y bytes maxL ret ∈ gW)
    (hd : y.cls = C ∧ y.cls ≠ "java/lang/invoke/MethodHandle" ∧ y.cls ≠ "java/lang/invoke/VarHandle" ∧ (parseMethodDescriptor y.desc).map (fun d => d.parameters.length) = some n) (hR : rm.frames + 1 ≤ R.frames ∧ 8 + (maxL + 11) + rm.locals ≤ R.locals) : CallW R s args own C index y bytes maxL ret (Cond.code y bytes maxL ret :: gW) rm rm.cells rm.slots n := by
  refine cwV n hG (gW_g fun w hw => ?_) rfl rfl rfl hd hR
  simp only [wsV, List.mem_append, List.mem_cons, List.not_mem_nil, or_false] at hw
  rcases hw with (rfl | rfl | rfl | rfl) | (rfl | hw)
  · exact h1
  · exact h2
  · exact h3
  · exact h4
  · exact h5
  · exact hw
theorem cw_s {y : MethodName} {bytes : ByteArray} {maxL : Nat} {ret : Option FieldType} {rm : Room} (n : Nat) (hG : ∀ w ∈ gW, w.before args s = true) (h1 : Cond.methodLink own index y ∈ gW) (h2 : Cond.static y ∈ gW) (h4 : Cond.initialized own ∈ gW) (h5 : Cond.code y bytes maxL ret ∈ gW)
    (hd : y.cls = own ∧ y.cls ≠ "java/lang/invoke/MethodHandle" ∧ y.cls ≠ "java/lang/invoke/VarHandle" ∧ (parseMethodDescriptor y.desc).map (fun d => d.parameters.length) = some n) (hR : rm.frames + 1 ≤ R.frames ∧ 8 + (maxL + 11) + rm.locals ≤ R.locals) : CallB R s args own index y bytes maxL ret (Cond.code y bytes maxL ret :: gW) rm rm.cells rm.slots n ∧ (Cond.static y).before args s = true := by
  refine cwS n hG (gW_g fun w hw => ?_) rfl rfl rfl hd hR
  simp only [wsS, List.mem_append, List.mem_cons, List.not_mem_nil, or_false] at hw
  rcases hw with (rfl | rfl | rfl) | (rfl | hw)
  · exact h1
  · exact h2
  · exact h4
  · exact h5
  · exact hw
/-- a field that is an int -/
theorem ro_geti (hx : p.tables.exec = Jvm.exec) (hb : c.code = cc) (hown : s.vm.findClass own = some m.cls) (hG : ∀ w ∈ gW, w.before args s = true) (hg : Gl dC dI tk A s) (hC : Cls ci C T N ty) (hst : St dC dI A s.heap H locs (oW ci h ks sp tk L g ar rw)) (k : Nat) (hk : k < N) (hks : ks[k]? = some none) (hT : (T k).1 = C) (hl : Cond.fieldLink own index C (T k).2.1 (T k).2.2.1 ∈ gW) (hdg : decode cc pc = .ok (.getfield index, 3))
    (kk : W p l e R s m args below meth c H locs cells slots Q (F0 m (pc + 3) ls (.int (g k) :: rest))) : W p l e R s m args below meth c H locs cells slots Q (F0 m pc ls (.ref h :: rest)) :=
  va_get (D := (dC, dI)) hx hb hG hC.2.1 hown hg.2.1 hst.1 0 oW_0 hC.1 k hk (hG _ hl) (fun _ h9 => by rw [hT] at h9; exact h9) (oF_get hks) hdg kk
/-- a field that is an array of the object's own -/
theorem ro_geta (hx : p.tables.exec = Jvm.exec) (hb : c.code = cc) (hown : s.vm.findClass own = some m.cls) (hG : ∀ w ∈ gW, w.before args s = true) (hg : Gl dC dI tk A s) (hC : Cls ci C T N ty) (hst : St dC dI A s.heap H locs (oW ci h ks sp tk L g ar rw)) (k j : Nat) (hk : k < N) (hks : ks[k]? = some (some j)) (hT : (T k).1 = C) (hl : Cond.fieldLink own index C (T k).2.1 (T k).2.2.1 ∈ gW) (hdg : decode cc pc = .ok (.getfield index, 3))
    (kk : W p l e R s m args below meth c H locs cells slots Q (F0 m (pc + 3) ls (.ref (L j) :: rest))) : W p l e R s m args below meth c H locs cells slots Q (F0 m pc ls (.ref h :: rest)) :=
  va_get (D := (dC, dI)) hx hb hG hC.2.1 hown hg.2.1 hst.1 0 oW_0 hC.1 k hk (hG _ hl) (fun _ h9 => by rw [hT] at h9; exact h9) (oF_ref hks) hdg kk
theorem ro_puti (hx : p.tables.exec = Jvm.exec) (hb : c.code = cc) (hown : s.vm.findClass own = some m.cls) (hG : ∀ w ∈ gW, w.before args s = true) (hg : Gl dC dI tk A s) (hC : Cls ci C T N ty) (hst : St dC dI A s.heap H locs (oW ci h ks sp tk L g ar rw)) {x : Int32} (k : Nat) (hk : k < N) (hks : ks[k]? = some none) (hT : (T k).1 = C) (hfin : (T k).2.2.2 = false) (hn : narrow (ty k) (.int x) = .int x) (hf : fits (ty k) (.int x) = true) (hl : Cond.fieldLink own index C (T k).2.1 (T k).2.2.1 ∈ gW) (hdg : decode cc pc = .ok (.putfield index, 3))
    (kk : ∀ (g1 : aG) (H1 : Heap) (locs1 : List Loc), g1 = va_up g k x → St dC dI A s.heap H1 locs1 (oW ci h ks sp tk L g1 ar rw) → W p l e R s m args below meth c H1 locs1 cells slots Q (F0 m (pc + 3) ls rest)) : W p l e R s m args below meth c H locs cells slots Q (F0 m pc ls (.int x :: .ref h :: rest)) := by
  refine va_put (D := (dC, dI)) hx hb hG hC.2.1 ty hC.2.2.1 hC.2.2.2 hown hg.2.1 hst.1 hst.2.1 hst.2.2 0 oW_0 hC.1 k hk (hG _ hl) (fun _ h9 => by rw [hT] at h9; exact h9) hfin (hC.2.2.1 k hk) hn hf (by rw [oF_len]; exact (List.getElem?_eq_some_iff.mp hks).1) hdg (fun H1 locs1 q1 q2 q3 => ?_)
  rw [oW_s0 hks] at q1 q2
  exact kk _ H1 locs1 rfl ⟨q1, q2, q3⟩

theorem ro_iald (hx : p.tables.exec = Jvm.exec) (hb : c.code = cc) (hg : Gl dC dI tk A s) (hst : St dC dI A s.heap H locs (oW ci h ks sp tk L g ar rw)) {n : Nat} {i : Int32} (j : Nat) (hs : sp[j]? = some (0, n)) (hin : inb i n = true) (hdg : decode cc pc = .ok (.iaload, 1))
    (kk : W p l e R s m args below meth c H locs cells slots Q (F0 m (pc + 1) ls (.int (ar j i.toNatClampNeg) :: rest))) : W p l e R s m args below meth c H locs cells slots Q (F0 m pc ls (.int i :: .ref (L j) :: rest)) := va_iald hx hb hg.2.1 hst.1 (j + 1) 0 (oW_g hs) rfl (inb_in hin) hdg kk
theorem ro_cald (hx : p.tables.exec = Jvm.exec) (hb : c.code = cc) (hg : Gl dC dI tk A s) (hst : St dC dI A s.heap H locs (oW ci h ks sp tk L g ar rw)) {n : Nat} {i : Int32} (j : Nat) (hs : sp[j]? = some (1, n)) (hin : inb i n = true) (hdg : decode cc pc = .ok (.caload, 1))
    (kk : W p l e R s m args below meth c H locs cells slots Q (F0 m (pc + 1) ls (.int (ar j i.toNatClampNeg) :: rest))) : W p l e R s m args below meth c H locs cells slots Q (F0 m pc ls (.int i :: .ref (L j) :: rest)) := va_cald hx hb hg.2.1 hst.1 (j + 1) 1 (oW_g hs) rfl (inb_in hin) hdg kk
theorem ro_zald (hx : p.tables.exec = Jvm.exec) (hb : c.code = cc) (hg : Gl dC dI tk A s) (hst : St dC dI A s.heap H locs (oW ci h ks sp tk L g ar rw)) {n : Nat} {i : Int32} (j : Nat) (hs : sp[j]? = some (2, n)) (hin : inb i n = true) (hdg : decode cc pc = .ok (.baload, 1))
    (kk : W p l e R s m args below meth c H locs cells slots Q (F0 m (pc + 1) ls (.int (ar j i.toNatClampNeg) :: rest))) : W p l e R s m args below meth c H locs cells slots Q (F0 m pc ls (.int i :: .ref (L j) :: rest)) := va_zald hx hb hg.2.1 hst.1 (j + 1) 2 (oW_g hs) rfl (inb_in hin) hdg kk
theorem ro_bald (hx : p.tables.exec = Jvm.exec) (hb : c.code = cc) (hg : Gl dC dI tk A s) (hst : St dC dI A s.heap H locs (oW ci h ks sp tk L g ar rw)) {n : Nat} {i : Int32} (j : Nat) (hs : sp[j]? = some (3, n)) (hin : inb i n = true) (hdg : decode cc pc = .ok (.baload, 1))
    (kk : W p l e R s m args below meth c H locs cells slots Q (F0 m (pc + 1) ls (.int (ar j i.toNatClampNeg) :: rest))) : W p l e R s m args below meth c H locs cells slots Q (F0 m pc ls (.int i :: .ref (L j) :: rest)) := va_bald hx hb hg.2.1 hst.1 (j + 1) 3 (oW_g hs) rfl (inb_in hin) hdg kk
theorem ro_iast (hx : p.tables.exec = Jvm.exec) (hb : c.code = cc) (hg : Gl dC dI tk A s) (hst : St dC dI A s.heap H locs (oW ci h ks sp tk L g ar rw)) {n : Nat} {i x : Int32} (j : Nat) (hs : sp[j]? = some (0, n)) (hin : inb i n = true) (hdg : decode cc pc = .ok (.iastore, 1))
    (kk : ∀ (a1 : aA) (H1 : Heap) (locs1 : List Loc), a1 = va_up ar j (upd (ar j) i.toNatClampNeg x) → St dC dI A s.heap H1 locs1 (oW ci h ks sp tk L g a1 rw) → W p l e R s m args below meth c H1 locs1 cells slots Q (F0 m (pc + 1) ls rest)) : W p l e R s m args below meth c H locs cells slots Q (F0 m pc ls (.int x :: .int i :: .ref (L j) :: rest)) := by
  refine va_iast hx hb hg.2.1 hst.1 hst.2.1 hst.2.2 (j + 1) 0 (oW_g hs) rfl (inb_in hin) hdg (fun H1 locs1 q1 q2 q3 => ?_)
  rw [oW_s hs] at q1 q2
  exact kk _ H1 locs1 rfl ⟨q1, q2, q3⟩
theorem ro_cast (hx : p.tables.exec = Jvm.exec) (hb : c.code = cc) (hg : Gl dC dI tk A s) (hst : St dC dI A s.heap H locs (oW ci h ks sp tk L g ar rw)) {n : Nat} {i x : Int32} (j : Nat) (hs : sp[j]? = some (1, n)) (hin : inb i n = true) (hdg : decode cc pc = .ok (.castore, 1))
    (kk : ∀ (a1 : aA) (H1 : Heap) (locs1 : List Loc), a1 = va_up ar j (upd (ar j) i.toNatClampNeg (vp_nar .char x)) → St dC dI A s.heap H1 locs1 (oW ci h ks sp tk L g a1 rw) → W p l e R s m args below meth c H1 locs1 cells slots Q (F0 m (pc + 1) ls rest)) : W p l e R s m args below meth c H locs cells slots Q (F0 m pc ls (.int x :: .int i :: .ref (L j) :: rest)) := by
  refine va_cast hx hb hg.2.1 hst.1 hst.2.1 hst.2.2 (j + 1) 1 (oW_g hs) rfl (inb_in hin) hdg (fun H1 locs1 q1 q2 q3 => ?_)
  rw [oW_s hs] at q1 q2
  exact kk _ H1 locs1 rfl ⟨q1, q2, q3⟩
theorem ro_zast (hx : p.tables.exec = Jvm.exec) (hb : c.code = cc) (hg : Gl dC dI tk A s) (hst : St dC dI A s.heap H locs (oW ci h ks sp tk L g ar rw)) {n : Nat} {i x : Int32} (j : Nat) (hs : sp[j]? = some (2, n)) (hin : inb i n = true) (hdg : decode cc pc = .ok (.bastore, 1))
    (kk : ∀ (a1 : aA) (H1 : Heap) (locs1 : List Loc), a1 = va_up ar j (upd (ar j) i.toNatClampNeg (vp_nar .boolean x)) → St dC dI A s.heap H1 locs1 (oW ci h ks sp tk L g a1 rw) → W p l e R s m args below meth c H1 locs1 cells slots Q (F0 m (pc + 1) ls rest)) : W p l e R s m args below meth c H locs cells slots Q (F0 m pc ls (.int x :: .int i :: .ref (L j) :: rest)) := by
  refine va_zast hx hb hg.2.1 hst.1 hst.2.1 hst.2.2 (j + 1) 2 (oW_g hs) rfl (inb_in hin) hdg (fun H1 locs1 q1 q2 q3 => ?_)
  rw [oW_s hs] at q1 q2
  exact kk _ H1 locs1 rfl ⟨q1, q2, q3⟩
end RO
