def RX0 : String := "PersistentParlour$Agent"
def TX0 : u_T := fun k => match k with
  | 0 => ("PersistentParlour$Agent", "value", "I", false)
  | 1 => ("PersistentParlour$Agent", "least", "I", true)
  | 2 => ("PersistentParlour$Agent", "greatest", "I", true)
  | 3 => ("PersistentParlour$Agent", "failsOnError", "Z", true)
  | 4 => ("PersistentParlour$Agent", "waiting", "LPersistentParlour$WaitingRow;", true)
  | 5 => ("PersistentParlour$Agent", "errorCount", "I", false)
  | _ => ("PersistentParlour$Agent", "failed", "Z", false)
def tyX0 : Nat → FieldType := fun k => match k with
  | 0 => .int
  | 1 => .int
  | 2 => .int
  | 3 => .boolean
  | 4 => .object "PersistentParlour$WaitingRow"
  | 5 => .int
  | _ => .boolean
theorem nmX0 : ∀ a, a < 7 → ∀ b, b < 7 → a ≠ b → (TX0 a).2.1 ≠ (TX0 b).2.1 := by decide +kernel
theorem tyX0_ok : ∀ k, k < 7 → parseFieldDescriptor (TX0 k).2.2.1 = some (tyX0 k) := by decide +kernel
abbrev cX0_init : ByteArray := prog_2_method_1_code
def yX0_init : MethodName := ⟨RX0, "<init>", "(IIIZ)V"⟩
abbrev cX0_takeNumber : ByteArray := prog_2_method_2_code
def yX0_takeNumber : MethodName := ⟨RX0, "takeNumber", "()V"⟩
def RX1 : String := "PersistentParlour$LogEntry"
def TX1 : u_T := fun k => match k with
  | 0 => ("PersistentParlour$LogEntry", "cameIn", "I", true)
  | 1 => ("PersistentParlour$LogEntry", "reference", "I", true)
  | 2 => ("PersistentParlour$LogEntry", "before", "I", true)
  | _ => ("PersistentParlour$LogEntry", "after", "I", true)
def tyX1 : Nat → FieldType := fun k => match k with
  | 0 => .int
  | 1 => .int
  | 2 => .int
  | _ => .int
theorem nmX1 : ∀ a, a < 4 → ∀ b, b < 4 → a ≠ b → (TX1 a).2.1 ≠ (TX1 b).2.1 := by decide +kernel
theorem tyX1_ok : ∀ k, k < 4 → parseFieldDescriptor (TX1 k).2.2.1 = some (tyX1 k) := by decide +kernel
abbrev cX1_init : ByteArray := prog_3_method_1_code
def yX1_init : MethodName := ⟨RX1, "<init>", "(IIII)V"⟩
def RX2 : String := "PersistentParlour$MapWork"
def TX2 : u_T := fun k => match k with
  | _ => ("", "", "", false)
def tyX2 : Nat → FieldType := fun k => match k with
  | _ => .int
theorem nmX2 : ∀ a, a < 0 → ∀ b, b < 0 → a ≠ b → (TX2 a).2.1 ≠ (TX2 b).2.1 := by decide +kernel
theorem tyX2_ok : ∀ k, k < 0 → parseFieldDescriptor (TX2 k).2.2.1 = some (tyX2 k) := by decide +kernel
abbrev cX2_placeOf : ByteArray := prog_4_method_2_code
def yX2_placeOf : MethodName := ⟨RX2, "placeOf", "(II)I"⟩
abbrev cX2_holderOf : ByteArray := prog_4_method_3_code
def yX2_holderOf : MethodName := ⟨RX2, "holderOf", "(LPersistentParlour$Node;I)LPersistentParlour$Node;"⟩
abbrev cX2_withPair : ByteArray := prog_4_method_4_code
def yX2_withPair : MethodName := ⟨RX2, "withPair", "(LPersistentParlour$NodeMaker;LPersistentParlour$Node;II)LPersistentParlour$Node;"⟩
abbrev cX2_changeableChild : ByteArray := prog_4_method_5_code
def yX2_changeableChild : MethodName := ⟨RX2, "changeableChild", "(LPersistentParlour$NodeMaker;LPersistentParlour$Node;I)LPersistentParlour$Node;"⟩
abbrev cX2_lowered : ByteArray := prog_4_method_6_code
def yX2_lowered : MethodName := ⟨RX2, "lowered", "(LPersistentParlour$NodeMaker;LPersistentParlour$Node;I)LPersistentParlour$Node;"⟩
abbrev cX2_withoutKey : ByteArray := prog_4_method_7_code
def yX2_withoutKey : MethodName := ⟨RX2, "withoutKey", "(LPersistentParlour$NodeMaker;LPersistentParlour$Node;I)LPersistentParlour$Node;"⟩
abbrev cX2_lift : ByteArray := prog_4_method_8_code
def yX2_lift : MethodName := ⟨RX2, "lift", "(LPersistentParlour$Node;ILPersistentParlour$Node;I)V"⟩
abbrev cX2_dropFromRow : ByteArray := prog_4_method_9_code
def yX2_dropFromRow : MethodName := ⟨RX2, "dropFromRow", "(LPersistentParlour$Node;I)V"⟩
def RX3 : String := "PersistentParlour$Node"
def TX3 : u_T := fun k => match k with
  | 0 => ("PersistentParlour$Node", "level", "I", true)
  | 1 => ("PersistentParlour$Node", "owner", "I", true)
  | 2 => ("PersistentParlour$Node", "keys", "[I", true)
  | 3 => ("PersistentParlour$Node", "elements", "[I", true)
  | 4 => ("PersistentParlour$Node", "below", "[LPersistentParlour$Node;", true)
  | 5 => ("PersistentParlour$Node", "keyCount", "I", false)
  | _ => ("PersistentParlour$Node", "mark", "I", false)
def tyX3 : Nat → FieldType := fun k => match k with
  | 0 => .int
  | 1 => .int
  | 2 => .array .int
  | 3 => .array .int
  | 4 => .array (.object "PersistentParlour$Node")
  | 5 => .int
  | _ => .int
theorem nmX3 : ∀ a, a < 7 → ∀ b, b < 7 → a ≠ b → (TX3 a).2.1 ≠ (TX3 b).2.1 := by decide +kernel
theorem tyX3_ok : ∀ k, k < 7 → parseFieldDescriptor (TX3 k).2.2.1 = some (tyX3 k) := by decide +kernel
abbrev cX3_init : ByteArray := prog_5_method_1_code
def yX3_init : MethodName := ⟨RX3, "<init>", "(II[I[I[LPersistentParlour$Node;)V"⟩
abbrev cX3_childAt : ByteArray := prog_5_method_2_code
def yX3_childAt : MethodName := ⟨RX3, "childAt", "(I)LPersistentParlour$Node;"⟩
abbrev cX3_putChild : ByteArray := prog_5_method_3_code
def yX3_putChild : MethodName := ⟨RX3, "putChild", "(ILPersistentParlour$Node;)V"⟩
abbrev cX3_elementAt : ByteArray := prog_5_method_4_code
def yX3_elementAt : MethodName := ⟨RX3, "elementAt", "(I)I"⟩
abbrev cX3_putElement : ByteArray := prog_5_method_5_code
def yX3_putElement : MethodName := ⟨RX3, "putElement", "(II)V"⟩
abbrev cX3_keyAt : ByteArray := prog_5_method_6_code
def yX3_keyAt : MethodName := ⟨RX3, "keyAt", "(I)I"⟩
abbrev cX3_putPair : ByteArray := prog_5_method_7_code
def yX3_putPair : MethodName := ⟨RX3, "putPair", "(III)V"⟩
abbrev cX3_slotOf : ByteArray := prog_5_method_8_code
def yX3_slotOf : MethodName := ⟨RX3, "slotOf", "(I)I"⟩
def RX4 : String := "PersistentParlour$NodeMaker"
def TX4 : u_T := fun k => match k with
  | _ => ("PersistentParlour$NodeMaker", "count", "J", false)
def tyX4 : Nat → FieldType := fun k => match k with
  | _ => .long
theorem nmX4 : ∀ a, a < 1 → ∀ b, b < 1 → a ≠ b → (TX4 a).2.1 ≠ (TX4 b).2.1 := by decide +kernel
theorem tyX4_ok : ∀ k, k < 1 → parseFieldDescriptor (TX4 k).2.2.1 = some (tyX4 k) := by decide +kernel
abbrev cX4_init : ByteArray := prog_6_method_1_code
def yX4_init : MethodName := ⟨RX4, "<init>", "()V"⟩
abbrev cX4_freshLeaf : ByteArray := prog_6_method_2_code
def yX4_freshLeaf : MethodName := ⟨RX4, "freshLeaf", "(I)LPersistentParlour$Node;"⟩
abbrev cX4_freshInner : ByteArray := prog_6_method_3_code
def yX4_freshInner : MethodName := ⟨RX4, "freshInner", "(I)LPersistentParlour$Node;"⟩
abbrev cX4_freshMapNode : ByteArray := prog_6_method_4_code
def yX4_freshMapNode : MethodName := ⟨RX4, "freshMapNode", "(I)LPersistentParlour$Node;"⟩
abbrev cX4_copyOf : ByteArray := prog_6_method_5_code
def yX4_copyOf : MethodName := ⟨RX4, "copyOf", "(LPersistentParlour$Node;I)LPersistentParlour$Node;"⟩
abbrev cX4_ownOrCopy : ByteArray := prog_6_method_6_code
def yX4_ownOrCopy : MethodName := ⟨RX4, "ownOrCopy", "(LPersistentParlour$Node;I)LPersistentParlour$Node;"⟩
def RX5 : String := "PersistentParlour$Reference"
def TX5 : u_T := fun k => match k with
  | 0 => ("PersistentParlour$Reference", "firstValue", "I", true)
  | 1 => ("PersistentParlour$Reference", "least", "I", true)
  | 2 => ("PersistentParlour$Reference", "greatest", "I", true)
  | 3 => ("PersistentParlour$Reference", "pastValues", "[I", true)
  | 4 => ("PersistentParlour$Reference", "pastMoments", "[I", true)
  | 5 => ("PersistentParlour$Reference", "kept", "I", false)
  | _ => ("PersistentParlour$Reference", "limit", "I", false)
def tyX5 : Nat → FieldType := fun k => match k with
  | 0 => .int
  | 1 => .int
  | 2 => .int
  | 3 => .array .int
  | 4 => .array .int
  | 5 => .int
  | _ => .int
theorem nmX5 : ∀ a, a < 7 → ∀ b, b < 7 → a ≠ b → (TX5 a).2.1 ≠ (TX5 b).2.1 := by decide +kernel
theorem tyX5_ok : ∀ k, k < 7 → parseFieldDescriptor (TX5 k).2.2.1 = some (tyX5 k) := by decide +kernel
abbrev cX5_init : ByteArray := prog_7_method_1_code
def yX5_init : MethodName := ⟨RX5, "<init>", "(III)V"⟩
abbrev cX5_latestValue : ByteArray := prog_7_method_2_code
def yX5_latestValue : MethodName := ⟨RX5, "latestValue", "()I"⟩
abbrev cX5_latestMoment : ByteArray := prog_7_method_3_code
def yX5_latestMoment : MethodName := ⟨RX5, "latestMoment", "()I"⟩
abbrev cX5_valueAt : ByteArray := prog_7_method_4_code
def yX5_valueAt : MethodName := ⟨RX5, "valueAt", "(I)I"⟩
abbrev cX5_momentAt : ByteArray := prog_7_method_5_code
def yX5_momentAt : MethodName := ⟨RX5, "momentAt", "(I)I"⟩
abbrev cX5_entryNotBehind : ByteArray := prog_7_method_6_code
def yX5_entryNotBehind : MethodName := ⟨RX5, "entryNotBehind", "(I)I"⟩
abbrev cX5_raiseLimit : ByteArray := prog_7_method_7_code
def yX5_raiseLimit : MethodName := ⟨RX5, "raiseLimit", "()V"⟩
abbrev cX5_come : ByteArray := prog_7_method_8_code
def yX5_come : MethodName := ⟨RX5, "come", "(II)V"⟩
abbrev cX5_dropOldest : ByteArray := prog_7_method_9_code
def yX5_dropOldest : MethodName := ⟨RX5, "dropOldest", "()V"⟩
def RX6 : String := "PersistentParlour$Sequence"
def TX6 : u_T := fun k => match k with
  | 0 => ("PersistentParlour$Sequence", "source", "LPersistentParlour$Sequence;", true)
  | 1 => ("PersistentParlour$Sequence", "way", "C", true)
  | 2 => ("PersistentParlour$Sequence", "number", "I", true)
  | 3 => ("PersistentParlour$Sequence", "elements", "[I", true)
  | 4 => ("PersistentParlour$Sequence", "count", "I", false)
  | 5 => ("PersistentParlour$Sequence", "ends", "[I", true)
  | 6 => ("PersistentParlour$Sequence", "chunkCount", "I", false)
  | 7 => ("PersistentParlour$Sequence", "broken", "Z", false)
  | _ => ("PersistentParlour$Sequence", "realisedChunks", "I", false)
def tyX6 : Nat → FieldType := fun k => match k with
  | 0 => .object "PersistentParlour$Sequence"
  | 1 => .char
  | 2 => .int
  | 3 => .array .int
  | 4 => .int
  | 5 => .array .int
  | 6 => .int
  | 7 => .boolean
  | _ => .int
theorem nmX6 : ∀ a, a < 9 → ∀ b, b < 9 → a ≠ b → (TX6 a).2.1 ≠ (TX6 b).2.1 := by decide +kernel
theorem tyX6_ok : ∀ k, k < 9 → parseFieldDescriptor (TX6 k).2.2.1 = some (tyX6 k) := by decide +kernel
abbrev cX6_init : ByteArray := prog_8_method_1_code
def yX6_init : MethodName := ⟨RX6, "<init>", "(LPersistentParlour$Sequence;CI)V"⟩
abbrev cX6_fillRange : ByteArray := prog_8_method_2_code
def yX6_fillRange : MethodName := ⟨RX6, "fillRange", "(III)V"⟩
abbrev cX6_fillFirst : ByteArray := prog_8_method_3_code
def yX6_fillFirst : MethodName := ⟨RX6, "fillFirst", "()V"⟩
abbrev cX6_fillByChunks : ByteArray := prog_8_method_4_code
def yX6_fillByChunks : MethodName := ⟨RX6, "fillByChunks", "()V"⟩
abbrev cX6_takeFrom : ByteArray := prog_8_method_5_code
def yX6_takeFrom : MethodName := ⟨RX6, "takeFrom", "(I)V"⟩
abbrev cX6_hasZero : ByteArray := prog_8_method_6_code
def yX6_hasZero : MethodName := ⟨RX6, "hasZero", "(II)Z"⟩
abbrev cX6_elementAt : ByteArray := prog_8_method_7_code
def yX6_elementAt : MethodName := ⟨RX6, "elementAt", "(I)I"⟩
abbrev cX6_takeElement : ByteArray := prog_8_method_8_code
def yX6_takeElement : MethodName := ⟨RX6, "takeElement", "(I)V"⟩
abbrev cX6_closeChunk : ByteArray := prog_8_method_9_code
def yX6_closeChunk : MethodName := ⟨RX6, "closeChunk", "()V"⟩
abbrev cX6_elementsIn : ByteArray := prog_8_method_10_code
def yX6_elementsIn : MethodName := ⟨RX6, "elementsIn", "(I)I"⟩
abbrev cX6_chunksFor : ByteArray := prog_8_method_11_code
def yX6_chunksFor : MethodName := ⟨RX6, "chunksFor", "(I)I"⟩
abbrev cX6_endsWithSource : ByteArray := prog_8_method_12_code
def yX6_endsWithSource : MethodName := ⟨RX6, "endsWithSource", "()Z"⟩
abbrev cX6_sourceChunksFor : ByteArray := prog_8_method_13_code
def yX6_sourceChunksFor : MethodName := ⟨RX6, "sourceChunksFor", "(IZ)I"⟩
def RX7 : String := "PersistentParlour$Transaction"
def TX7 : u_T := fun k => match k with
  | 0 => ("PersistentParlour$Transaction", "running", "Z", false)
  | 1 => ("PersistentParlour$Transaction", "birth", "I", false)
  | 2 => ("PersistentParlour$Transaction", "point", "I", false)
  | 3 => ("PersistentParlour$Transaction", "timesBack", "I", false)
  | 4 => ("PersistentParlour$Transaction", "written", "[Z", true)
  | 5 => ("PersistentParlour$Transaction", "own", "[I", true)
  | 6 => ("PersistentParlour$Transaction", "ensured", "[Z", true)
  | 7 => ("PersistentParlour$Transaction", "adding", "[Z", true)
  | 8 => ("PersistentParlour$Transaction", "sums", "[I", true)
  | _ => ("PersistentParlour$Transaction", "outgoing", "[LPersistentParlour$WaitingRow;", true)
def tyX7 : Nat → FieldType := fun k => match k with
  | 0 => .boolean
  | 1 => .int
  | 2 => .int
  | 3 => .int
  | 4 => .array .boolean
  | 5 => .array .int
  | 6 => .array .boolean
  | 7 => .array .boolean
  | 8 => .array .int
  | _ => .array (.object "PersistentParlour$WaitingRow")
theorem nmX7 : ∀ a, a < 10 → ∀ b, b < 10 → a ≠ b → (TX7 a).2.1 ≠ (TX7 b).2.1 := by decide +kernel
theorem tyX7_ok : ∀ k, k < 10 → parseFieldDescriptor (TX7 k).2.2.1 = some (tyX7 k) := by decide +kernel
abbrev cX7_init : ByteArray := prog_9_method_1_code
def yX7_init : MethodName := ⟨RX7, "<init>", "()V"⟩
abbrev cX7_start : ByteArray := prog_9_method_2_code
def yX7_start : MethodName := ⟨RX7, "start", "(II)V"⟩
abbrev cX7_goBack : ByteArray := prog_9_method_3_code
def yX7_goBack : MethodName := ⟨RX7, "goBack", "(I)V"⟩
abbrev cX7_stop : ByteArray := prog_9_method_4_code
def yX7_stop : MethodName := ⟨RX7, "stop", "()V"⟩
abbrev cX7_forget : ByteArray := prog_9_method_5_code
def yX7_forget : MethodName := ⟨RX7, "forget", "()V"⟩
abbrev cX7_holds : ByteArray := prog_9_method_6_code
def yX7_holds : MethodName := ⟨RX7, "holds", "(IZ)Z"⟩
abbrev cX7_changes : ByteArray := prog_9_method_7_code
def yX7_changes : MethodName := ⟨RX7, "changes", "(I)Z"⟩
def RX8 : String := "PersistentParlour$Value"
def TX8 : u_T := fun k => match k with
  | 0 => ("PersistentParlour$Value", "kind", "I", false)
  | 1 => ("PersistentParlour$Value", "top", "LPersistentParlour$Node;", false)
  | 2 => ("PersistentParlour$Value", "size", "I", false)
  | 3 => ("PersistentParlour$Value", "plainKeys", "[I", true)
  | _ => ("PersistentParlour$Value", "plainElements", "[I", true)
def tyX8 : Nat → FieldType := fun k => match k with
  | 0 => .int
  | 1 => .object "PersistentParlour$Node"
  | 2 => .int
  | 3 => .array .int
  | _ => .array .int
theorem nmX8 : ∀ a, a < 5 → ∀ b, b < 5 → a ≠ b → (TX8 a).2.1 ≠ (TX8 b).2.1 := by decide +kernel
theorem tyX8_ok : ∀ k, k < 5 → parseFieldDescriptor (TX8 k).2.2.1 = some (tyX8 k) := by decide +kernel
abbrev cX8_init : ByteArray := prog_10_method_1_code
def yX8_init : MethodName := ⟨RX8, "<init>", "(ILPersistentParlour$Node;I[I[I)V"⟩
abbrev cX8_isLiveVector : ByteArray := prog_10_method_2_code
def yX8_isLiveVector : MethodName := ⟨RX8, "isLiveVector", "()Z"⟩
abbrev cX8_plainSlotOf : ByteArray := prog_10_method_3_code
def yX8_plainSlotOf : MethodName := ⟨RX8, "plainSlotOf", "(I)I"⟩
abbrev cX8_plainKeyAt : ByteArray := prog_10_method_4_code
def yX8_plainKeyAt : MethodName := ⟨RX8, "plainKeyAt", "(I)I"⟩
abbrev cX8_plainElementAt : ByteArray := prog_10_method_5_code
def yX8_plainElementAt : MethodName := ⟨RX8, "plainElementAt", "(I)I"⟩
abbrev cX8_putPlain : ByteArray := prog_10_method_6_code
def yX8_putPlain : MethodName := ⟨RX8, "putPlain", "(II)V"⟩
abbrev cX8_putPlainPair : ByteArray := prog_10_method_7_code
def yX8_putPlainPair : MethodName := ⟨RX8, "putPlainPair", "(III)V"⟩
abbrev cX8_spend : ByteArray := prog_10_method_8_code
def yX8_spend : MethodName := ⟨RX8, "spend", "()V"⟩
def RX9 : String := "PersistentParlour$VectorWork"
def TX9 : u_T := fun k => match k with
  | _ => ("", "", "", false)
def tyX9 : Nat → FieldType := fun k => match k with
  | _ => .int
theorem nmX9 : ∀ a, a < 0 → ∀ b, b < 0 → a ≠ b → (TX9 a).2.1 ≠ (TX9 b).2.1 := by decide +kernel
theorem tyX9_ok : ∀ k, k < 0 → parseFieldDescriptor (TX9 k).2.2.1 = some (tyX9 k) := by decide +kernel
abbrev cX9_depthFor : ByteArray := prog_11_method_2_code
def yX9_depthFor : MethodName := ⟨RX9, "depthFor", "(I)I"⟩
abbrev cX9_placeAt : ByteArray := prog_11_method_3_code
def yX9_placeAt : MethodName := ⟨RX9, "placeAt", "(II)I"⟩
abbrev cX9_elementIn : ByteArray := prog_11_method_4_code
def yX9_elementIn : MethodName := ⟨RX9, "elementIn", "(LPersistentParlour$Node;II)I"⟩
abbrev cX9_withOneMore : ByteArray := prog_11_method_5_code
def yX9_withOneMore : MethodName := ⟨RX9, "withOneMore", "(LPersistentParlour$NodeMaker;LPersistentParlour$Node;III)LPersistentParlour$Node;"⟩
abbrev cX9_withOther : ByteArray := prog_11_method_6_code
def yX9_withOther : MethodName := ⟨RX9, "withOther", "(LPersistentParlour$NodeMaker;LPersistentParlour$Node;IIII)LPersistentParlour$Node;"⟩
abbrev cX9_withOneLess : ByteArray := prog_11_method_7_code
def yX9_withOneLess : MethodName := ⟨RX9, "withOneLess", "(LPersistentParlour$NodeMaker;LPersistentParlour$Node;I)LPersistentParlour$Node;"⟩
abbrev cX9_putIn : ByteArray := prog_11_method_8_code
def yX9_putIn : MethodName := ⟨RX9, "putIn", "(LPersistentParlour$NodeMaker;LPersistentParlour$Node;IIII)V"⟩
abbrev cX9_changeableChild : ByteArray := prog_11_method_9_code
def yX9_changeableChild : MethodName := ⟨RX9, "changeableChild", "(LPersistentParlour$NodeMaker;LPersistentParlour$Node;III)LPersistentParlour$Node;"⟩
def RX10 : String := "PersistentParlour$WaitingRow"
def TX10 : u_T := fun k => match k with
  | 0 => ("PersistentParlour$WaitingRow", "numbers", "[I", true)
  | _ => ("PersistentParlour$WaitingRow", "count", "I", false)
def tyX10 : Nat → FieldType := fun k => match k with
  | 0 => .array .int
  | _ => .int
theorem nmX10 : ∀ a, a < 2 → ∀ b, b < 2 → a ≠ b → (TX10 a).2.1 ≠ (TX10 b).2.1 := by decide +kernel
theorem tyX10_ok : ∀ k, k < 2 → parseFieldDescriptor (TX10 k).2.2.1 = some (tyX10 k) := by decide +kernel
abbrev cX10_init : ByteArray := prog_12_method_1_code
def yX10_init : MethodName := ⟨RX10, "<init>", "()V"⟩
abbrev cX10_lineUp : ByteArray := prog_12_method_2_code
def yX10_lineUp : MethodName := ⟨RX10, "lineUp", "(I)V"⟩
abbrev cX10_lineUpAll : ByteArray := prog_12_method_3_code
def yX10_lineUpAll : MethodName := ⟨RX10, "lineUpAll", "(LPersistentParlour$WaitingRow;)V"⟩
abbrev cX10_takeFirst : ByteArray := prog_12_method_4_code
def yX10_takeFirst : MethodName := ⟨RX10, "takeFirst", "()I"⟩
def RX11 : String := "PersistentParlour"
def TX11 : u_T := fun k => match k with
  | 0 => ("PersistentParlour", "values", "[LPersistentParlour$Value;", true)
  | 1 => ("PersistentParlour", "valueCount", "I", false)
  | 2 => ("PersistentParlour", "maker", "LPersistentParlour$NodeMaker;", true)
  | 3 => ("PersistentParlour", "marks", "I", false)
  | 4 => ("PersistentParlour", "sequences", "[LPersistentParlour$Sequence;", true)
  | 5 => ("PersistentParlour", "sequenceCount", "I", false)
  | 6 => ("PersistentParlour", "references", "[LPersistentParlour$Reference;", true)
  | 7 => ("PersistentParlour", "referenceCount", "I", false)
  | 8 => ("PersistentParlour", "transactions", "[LPersistentParlour$Transaction;", true)
  | 9 => ("PersistentParlour", "births", "I", false)
  | 10 => ("PersistentParlour", "present", "I", false)
  | 11 => ("PersistentParlour", "log", "Ljava/util/ArrayList;", true)
  | 12 => ("PersistentParlour", "agents", "[LPersistentParlour$Agent;", true)
  | _ => ("PersistentParlour", "agentCount", "I", false)
def tyX11 : Nat → FieldType := fun k => match k with
  | 0 => .array (.object "PersistentParlour$Value")
  | 1 => .int
  | 2 => .object "PersistentParlour$NodeMaker"
  | 3 => .int
  | 4 => .array (.object "PersistentParlour$Sequence")
  | 5 => .int
  | 6 => .array (.object "PersistentParlour$Reference")
  | 7 => .int
  | 8 => .array (.object "PersistentParlour$Transaction")
  | 9 => .int
  | 10 => .int
  | 11 => .object "java/util/ArrayList"
  | 12 => .array (.object "PersistentParlour$Agent")
  | _ => .int
theorem nmX11 : ∀ a, a < 14 → ∀ b, b < 14 → a ≠ b → (TX11 a).2.1 ≠ (TX11 b).2.1 := by decide +kernel
theorem tyX11_ok : ∀ k, k < 14 → parseFieldDescriptor (TX11 k).2.2.1 = some (tyX11 k) := by decide +kernel
abbrev cX11_init : ByteArray := prog_1_method_1_code
def yX11_init : MethodName := ⟨RX11, "<init>", "()V"⟩
abbrev cX11_vector : ByteArray := prog_1_method_2_code
def yX11_vector : MethodName := ⟨RX11, "vector", "()I"⟩
abbrev cX11_append : ByteArray := prog_1_method_3_code
def yX11_append : MethodName := ⟨RX11, "append", "(II)I"⟩
abbrev cX11_set : ByteArray := prog_1_method_4_code
def yX11_set : MethodName := ⟨RX11, "set", "(III)I"⟩
abbrev cX11_cut : ByteArray := prog_1_method_5_code
def yX11_cut : MethodName := ⟨RX11, "cut", "(I)I"⟩
abbrev cX11_depth : ByteArray := prog_1_method_6_code
def yX11_depth : MethodName := ⟨RX11, "depth", "(I)I"⟩
abbrev cX11_open : ByteArray := prog_1_method_7_code
def yX11_open : MethodName := ⟨RX11, "open", "(I)I"⟩
abbrev cX11_appendTo : ByteArray := prog_1_method_8_code
def yX11_appendTo : MethodName := ⟨RX11, "appendTo", "(II)I"⟩
abbrev cX11_setIn : ByteArray := prog_1_method_9_code
def yX11_setIn : MethodName := ⟨RX11, "setIn", "(III)I"⟩
abbrev cX11_makeLasting : ByteArray := prog_1_method_10_code
def yX11_makeLasting : MethodName := ⟨RX11, "makeLasting", "(I)I"⟩
abbrev cX11_isOpen : ByteArray := prog_1_method_11_code
def yX11_isOpen : MethodName := ⟨RX11, "isOpen", "(I)Z"⟩
abbrev cX11_map : ByteArray := prog_1_method_12_code
def yX11_map : MethodName := ⟨RX11, "map", "()I"⟩
abbrev cX11_put : ByteArray := prog_1_method_13_code
def yX11_put : MethodName := ⟨RX11, "put", "(III)I"⟩
abbrev cX11_without : ByteArray := prog_1_method_14_code
def yX11_without : MethodName := ⟨RX11, "without", "(II)I"⟩
abbrev cX11_get : ByteArray := prog_1_method_15_code
def yX11_get : MethodName := ⟨RX11, "get", "(II)I"⟩
abbrev cX11_getPlain : ByteArray := prog_1_method_16_code
def yX11_getPlain : MethodName := ⟨RX11, "getPlain", "(II)I"⟩
abbrev cX11_levelOf : ByteArray := prog_1_method_17_code
def yX11_levelOf : MethodName := ⟨RX11, "levelOf", "(II)I"⟩
abbrev cX11_size : ByteArray := prog_1_method_18_code
def yX11_size : MethodName := ⟨RX11, "size", "(I)I"⟩
abbrev cX11_nodes : ByteArray := prog_1_method_19_code
def yX11_nodes : MethodName := ⟨RX11, "nodes", "(I)I"⟩
abbrev cX11_shared : ByteArray := prog_1_method_20_code
def yX11_shared : MethodName := ⟨RX11, "shared", "(II)I"⟩
abbrev cX11_areSame : ByteArray := prog_1_method_21_code
def yX11_areSame : MethodName := ⟨RX11, "areSame", "(II)Z"⟩
abbrev cX11_made : ByteArray := prog_1_method_22_code
def yX11_made : MethodName := ⟨RX11, "made", "()J"⟩
abbrev cX11_range : ByteArray := prog_1_method_23_code
def yX11_range : MethodName := ⟨RX11, "range", "(III)I"⟩
abbrev cX11_over : ByteArray := prog_1_method_24_code
def yX11_over : MethodName := ⟨RX11, "over", "(ICI)I"⟩
abbrev cX11_at : ByteArray := prog_1_method_25_code
def yX11_at : MethodName := ⟨RX11, "at", "(II)I"⟩
abbrev cX11_all : ByteArray := prog_1_method_26_code
def yX11_all : MethodName := ⟨RX11, "all", "(I)I"⟩
abbrev cX11_realised : ByteArray := prog_1_method_27_code
def yX11_realised : MethodName := ⟨RX11, "realised", "(I)I"⟩
abbrev cX11_chunks : ByteArray := prog_1_method_28_code
def yX11_chunks : MethodName := ⟨RX11, "chunks", "(I)I"⟩
abbrev cX11_collect : ByteArray := prog_1_method_29_code
def yX11_collect : MethodName := ⟨RX11, "collect", "(I)I"⟩
abbrev cX11_addReference : ByteArray := prog_1_method_30_code
def yX11_addReference : MethodName := ⟨RX11, "addReference", "(III)I"⟩
abbrev cX11_begin : ByteArray := prog_1_method_31_code
def yX11_begin : MethodName := ⟨RX11, "begin", "(I)I"⟩
abbrev cX11_read : ByteArray := prog_1_method_32_code
def yX11_read : MethodName := ⟨RX11, "read", "(II)I"⟩
abbrev cX11_write : ByteArray := prog_1_method_33_code
def yX11_write : MethodName := ⟨RX11, "write", "(III)Z"⟩
abbrev cX11_ensure : ByteArray := prog_1_method_34_code
def yX11_ensure : MethodName := ⟨RX11, "ensure", "(II)Z"⟩
abbrev cX11_add : ByteArray := prog_1_method_35_code
def yX11_add : MethodName := ⟨RX11, "add", "(III)Z"⟩
abbrev cX11_commit : ByteArray := prog_1_method_36_code
def yX11_commit : MethodName := ⟨RX11, "commit", "(I)C"⟩
abbrev cX11_end : ByteArray := prog_1_method_37_code
def yX11_end : MethodName := ⟨RX11, "end", "(I)I"⟩
abbrev cX11_sentBack : ByteArray := prog_1_method_38_code
def yX11_sentBack : MethodName := ⟨RX11, "sentBack", "(I)I"⟩
abbrev cX11_valueOf : ByteArray := prog_1_method_39_code
def yX11_valueOf : MethodName := ⟨RX11, "valueOf", "(I)I"⟩
abbrev cX11_valueByLog : ByteArray := prog_1_method_40_code
def yX11_valueByLog : MethodName := ⟨RX11, "valueByLog", "(I)I"⟩
abbrev cX11_history : ByteArray := prog_1_method_41_code
def yX11_history : MethodName := ⟨RX11, "history", "(I)I"⟩
abbrev cX11_moment : ByteArray := prog_1_method_42_code
def yX11_moment : MethodName := ⟨RX11, "moment", "()I"⟩
abbrev cX11_logged : ByteArray := prog_1_method_43_code
def yX11_logged : MethodName := ⟨RX11, "logged", "()I"⟩
abbrev cX11_logAt : ByteArray := prog_1_method_44_code
def yX11_logAt : MethodName := ⟨RX11, "logAt", "(II)I"⟩
abbrev cX11_addAgent : ByteArray := prog_1_method_45_code
def yX11_addAgent : MethodName := ⟨RX11, "addAgent", "(IIIC)I"⟩
abbrev cX11_send : ByteArray := prog_1_method_46_code
def yX11_send : MethodName := ⟨RX11, "send", "(III)I"⟩
abbrev cX11_act : ByteArray := prog_1_method_47_code
def yX11_act : MethodName := ⟨RX11, "act", "(I)I"⟩
abbrev cX11_beginAnew : ByteArray := prog_1_method_48_code
def yX11_beginAnew : MethodName := ⟨RX11, "beginAnew", "(II)I"⟩
abbrev cX11_errors : ByteArray := prog_1_method_49_code
def yX11_errors : MethodName := ⟨RX11, "errors", "(I)I"⟩
abbrev cX11_sharing : ByteArray := prog_1_method_50_code
def yX11_sharing : MethodName := ⟨RX11, "sharing", "()F"⟩
abbrev cX11_valueNumbered : ByteArray := prog_1_method_51_code
def yX11_valueNumbered : MethodName := ⟨RX11, "valueNumbered", "(I)LPersistentParlour$Value;"⟩
abbrev cX11_refuseMoreValues : ByteArray := prog_1_method_52_code
def yX11_refuseMoreValues : MethodName := ⟨RX11, "refuseMoreValues", "()V"⟩
abbrev cX11_refuseElement : ByteArray := prog_1_method_53_code
def yX11_refuseElement : MethodName := ⟨RX11, "refuseElement", "(I)V"⟩
abbrev cX11_refuseUnless : ByteArray := prog_1_method_54_code
def yX11_refuseUnless : MethodName := ⟨RX11, "refuseUnless", "(LPersistentParlour$Value;I)V"⟩
abbrev cX11_refuseFull : ByteArray := prog_1_method_55_code
def yX11_refuseFull : MethodName := ⟨RX11, "refuseFull", "(LPersistentParlour$Value;)V"⟩
abbrev cX11_refusePlace : ByteArray := prog_1_method_56_code
def yX11_refusePlace : MethodName := ⟨RX11, "refusePlace", "(LPersistentParlour$Value;I)V"⟩
abbrev cX11_isWithin : ByteArray := prog_1_method_57_code
def yX11_isWithin : MethodName := ⟨RX11, "isWithin", "(III)Z"⟩
abbrev cX11_keep : ByteArray := prog_1_method_58_code
def yX11_keep : MethodName := ⟨RX11, "keep", "(LPersistentParlour$Value;)I"⟩
abbrev cX11_keepVector : ByteArray := prog_1_method_59_code
def yX11_keepVector : MethodName := ⟨RX11, "keepVector", "(LPersistentParlour$Node;I[I)I"⟩
abbrev cX11_keepMap : ByteArray := prog_1_method_60_code
def yX11_keepMap : MethodName := ⟨RX11, "keepMap", "(LPersistentParlour$Node;I[I[I)I"⟩
abbrev cX11_rowWithout : ByteArray := prog_1_method_61_code
def yX11_rowWithout : MethodName := ⟨RX11, "rowWithout", "([II)[I"⟩
abbrev cX11_sameElements : ByteArray := prog_1_method_62_code
def yX11_sameElements : MethodName := ⟨RX11, "sameElements", "(LPersistentParlour$Value;LPersistentParlour$Value;)Z"⟩
abbrev cX11_samePairs : ByteArray := prog_1_method_63_code
def yX11_samePairs : MethodName := ⟨RX11, "samePairs", "(LPersistentParlour$Value;LPersistentParlour$Value;)Z"⟩
abbrev cX11_countNodes : ByteArray := prog_1_method_64_code
def yX11_countNodes : MethodName := ⟨RX11, "countNodes", "(LPersistentParlour$Node;I)I"⟩
abbrev cX11_markNodes : ByteArray := prog_1_method_65_code
def yX11_markNodes : MethodName := ⟨RX11, "markNodes", "(LPersistentParlour$Node;II)I"⟩
abbrev cX11_sequenceNumbered : ByteArray := prog_1_method_66_code
def yX11_sequenceNumbered : MethodName := ⟨RX11, "sequenceNumbered", "(I)LPersistentParlour$Sequence;"⟩
abbrev cX11_refuseMoreSequences : ByteArray := prog_1_method_67_code
def yX11_refuseMoreSequences : MethodName := ⟨RX11, "refuseMoreSequences", "()V"⟩
abbrev cX11_refuseBroken : ByteArray := prog_1_method_68_code
def yX11_refuseBroken : MethodName := ⟨RX11, "refuseBroken", "(LPersistentParlour$Sequence;)V"⟩
abbrev cX11_keepSequence : ByteArray := prog_1_method_69_code
def yX11_keepSequence : MethodName := ⟨RX11, "keepSequence", "(LPersistentParlour$Sequence;)I"⟩
abbrev cX11_realise : ByteArray := prog_1_method_70_code
def yX11_realise : MethodName := ⟨RX11, "realise", "(LPersistentParlour$Sequence;IZ)V"⟩
abbrev cX11_refuseBounds : ByteArray := prog_1_method_71_code
def yX11_refuseBounds : MethodName := ⟨RX11, "refuseBounds", "(III)V"⟩
abbrev cX11_referenceNumbered : ByteArray := prog_1_method_72_code
def yX11_referenceNumbered : MethodName := ⟨RX11, "referenceNumbered", "(I)LPersistentParlour$Reference;"⟩
abbrev cX11_transactionNumbered : ByteArray := prog_1_method_73_code
def yX11_transactionNumbered : MethodName := ⟨RX11, "transactionNumbered", "(I)LPersistentParlour$Transaction;"⟩
abbrev cX11_agentNumbered : ByteArray := prog_1_method_74_code
def yX11_agentNumbered : MethodName := ⟨RX11, "agentNumbered", "(I)LPersistentParlour$Agent;"⟩
abbrev cX11_refuseEnded : ByteArray := prog_1_method_75_code
def yX11_refuseEnded : MethodName := ⟨RX11, "refuseEnded", "(LPersistentParlour$Transaction;)V"⟩
abbrev cX11_holdsPoint : ByteArray := prog_1_method_76_code
def yX11_holdsPoint : MethodName := ⟨RX11, "holdsPoint", "(LPersistentParlour$Transaction;LPersistentParlour$Reference;)Z"⟩
abbrev cX11_winsAgainstOthers : ByteArray := prog_1_method_77_code
def yX11_winsAgainstOthers : MethodName := ⟨RX11, "winsAgainstOthers", "(LPersistentParlour$Transaction;IZ)Z"⟩
abbrev cX11_valueToCommit : ByteArray := prog_1_method_78_code
def yX11_valueToCommit : MethodName := ⟨RX11, "valueToCommit", "(LPersistentParlour$Transaction;I)I"⟩
abbrev cX11_staysWithinBounds : ByteArray := prog_1_method_79_code
def yX11_staysWithinBounds : MethodName := ⟨RX11, "staysWithinBounds", "(LPersistentParlour$Transaction;)Z"⟩
abbrev cX11_changesAny : ByteArray := prog_1_method_80_code
def yX11_changesAny : MethodName := ⟨RX11, "changesAny", "(LPersistentParlour$Transaction;)Z"⟩
abbrev cX11_recordChanges : ByteArray := prog_1_method_81_code
def yX11_recordChanges : MethodName := ⟨RX11, "recordChanges", "(LPersistentParlour$Transaction;)V"⟩
abbrev cX11_deliver : ByteArray := prog_1_method_82_code
def yX11_deliver : MethodName := ⟨RX11, "deliver", "(LPersistentParlour$Transaction;)V"⟩
def RX12 : String := "PersistentParlourModel$Agent"
def TX12 : u_T := fun k => match k with
  | _ => ("", "", "", false)
def tyX12 : Nat → FieldType := fun k => match k with
  | _ => .int
theorem nmX12 : ∀ a, a < 0 → ∀ b, b < 0 → a ≠ b → (TX12 a).2.1 ≠ (TX12 b).2.1 := by decide +kernel
theorem tyX12_ok : ∀ k, k < 0 → parseFieldDescriptor (TX12 k).2.2.1 = some (tyX12 k) := by decide +kernel
def RX13 : String := "PersistentParlourModel$Reference"
def TX13 : u_T := fun k => match k with
  | _ => ("", "", "", false)
def tyX13 : Nat → FieldType := fun k => match k with
  | _ => .int
theorem nmX13 : ∀ a, a < 0 → ∀ b, b < 0 → a ≠ b → (TX13 a).2.1 ≠ (TX13 b).2.1 := by decide +kernel
theorem tyX13_ok : ∀ k, k < 0 → parseFieldDescriptor (TX13 k).2.2.1 = some (tyX13 k) := by decide +kernel
def RX14 : String := "PersistentParlourModel$Sequence"
def TX14 : u_T := fun k => match k with
  | _ => ("", "", "", false)
def tyX14 : Nat → FieldType := fun k => match k with
  | _ => .int
theorem nmX14 : ∀ a, a < 0 → ∀ b, b < 0 → a ≠ b → (TX14 a).2.1 ≠ (TX14 b).2.1 := by decide +kernel
theorem tyX14_ok : ∀ k, k < 0 → parseFieldDescriptor (TX14 k).2.2.1 = some (tyX14 k) := by decide +kernel
def RX15 : String := "PersistentParlourModel$Transaction"
def TX15 : u_T := fun k => match k with
  | _ => ("", "", "", false)
def tyX15 : Nat → FieldType := fun k => match k with
  | _ => .int
theorem nmX15 : ∀ a, a < 0 → ∀ b, b < 0 → a ≠ b → (TX15 a).2.1 ≠ (TX15 b).2.1 := by decide +kernel
theorem tyX15_ok : ∀ k, k < 0 → parseFieldDescriptor (TX15 k).2.2.1 = some (tyX15 k) := by decide +kernel
def RX16 : String := "PersistentParlourModel"
def TX16 : u_T := fun k => match k with
  | _ => ("", "", "", false)
def tyX16 : Nat → FieldType := fun k => match k with
  | _ => .int
theorem nmX16 : ∀ a, a < 0 → ∀ b, b < 0 → a ≠ b → (TX16 a).2.1 ≠ (TX16 b).2.1 := by decide +kernel
theorem tyX16_ok : ∀ k, k < 0 → parseFieldDescriptor (TX16 k).2.2.1 = some (tyX16 k) := by decide +kernel
def RJx145de : String := "java/io/Serializable"
def TJx145de : u_T := fun k => match k with
  | _ => ("", "", "", false)
def tyJx145de : Nat → FieldType := fun k => match k with
  | _ => .int
theorem nmJx145de : ∀ a, a < 0 → ∀ b, b < 0 → a ≠ b → (TJx145de a).2.1 ≠ (TJx145de b).2.1 := by decide +kernel
theorem tyJx145de_ok : ∀ k, k < 0 → parseFieldDescriptor (TJx145de k).2.2.1 = some (tyJx145de k) := by decide +kernel
def RJx9f9b0 : String := "java/lang/CharSequence"
def TJx9f9b0 : u_T := fun k => match k with
  | _ => ("", "", "", false)
def tyJx9f9b0 : Nat → FieldType := fun k => match k with
  | _ => .int
theorem nmJx9f9b0 : ∀ a, a < 0 → ∀ b, b < 0 → a ≠ b → (TJx9f9b0 a).2.1 ≠ (TJx9f9b0 b).2.1 := by decide +kernel
theorem tyJx9f9b0_ok : ∀ k, k < 0 → parseFieldDescriptor (TJx9f9b0 k).2.2.1 = some (tyJx9f9b0 k) := by decide +kernel
def RJx8e188 : String := "java/lang/Cloneable"
def TJx8e188 : u_T := fun k => match k with
  | _ => ("", "", "", false)
def tyJx8e188 : Nat → FieldType := fun k => match k with
  | _ => .int
theorem nmJx8e188 : ∀ a, a < 0 → ∀ b, b < 0 → a ≠ b → (TJx8e188 a).2.1 ≠ (TJx8e188 b).2.1 := by decide +kernel
theorem tyJx8e188_ok : ∀ k, k < 0 → parseFieldDescriptor (TJx8e188 k).2.2.1 = some (tyJx8e188 k) := by decide +kernel
def RJxb160c : String := "java/lang/Comparable"
def TJxb160c : u_T := fun k => match k with
  | _ => ("", "", "", false)
def tyJxb160c : Nat → FieldType := fun k => match k with
  | _ => .int
theorem nmJxb160c : ∀ a, a < 0 → ∀ b, b < 0 → a ≠ b → (TJxb160c a).2.1 ≠ (TJxb160c b).2.1 := by decide +kernel
theorem tyJxb160c_ok : ∀ k, k < 0 → parseFieldDescriptor (TJxb160c k).2.2.1 = some (tyJxb160c k) := by decide +kernel
def RJxab1ab : String := "java/lang/Iterable"
def TJxab1ab : u_T := fun k => match k with
  | _ => ("", "", "", false)
def tyJxab1ab : Nat → FieldType := fun k => match k with
  | _ => .int
theorem nmJxab1ab : ∀ a, a < 0 → ∀ b, b < 0 → a ≠ b → (TJxab1ab a).2.1 ≠ (TJxab1ab b).2.1 := by decide +kernel
theorem tyJxab1ab_ok : ∀ k, k < 0 → parseFieldDescriptor (TJxab1ab k).2.2.1 = some (tyJxab1ab k) := by decide +kernel
def RJ9 : String := "java/lang/Math"
def TJ9 : u_T := fun k => match k with
  | _ => ("", "", "", false)
def tyJ9 : Nat → FieldType := fun k => match k with
  | _ => .int
theorem nmJ9 : ∀ a, a < 0 → ∀ b, b < 0 → a ≠ b → (TJ9 a).2.1 ≠ (TJ9 b).2.1 := by decide +kernel
theorem tyJ9_ok : ∀ k, k < 0 → parseFieldDescriptor (TJ9 k).2.2.1 = some (tyJ9 k) := by decide +kernel
abbrev cJ9_max_7cf53 : ByteArray := prog_28_method_65_code
def yJ9_max_7cf53 : MethodName := ⟨RJ9, "max", "(II)I"⟩
abbrev cJ9_min_7cf53 : ByteArray := prog_28_method_69_code
def yJ9_min_7cf53 : MethodName := ⟨RJ9, "min", "(II)I"⟩
def RJ0 : String := "java/lang/String"
def TJ0 : u_T := fun k => match k with
  | _ => ("", "", "", false)
def tyJ0 : Nat → FieldType := fun k => match k with
  | _ => .int
theorem nmJ0 : ∀ a, a < 0 → ∀ b, b < 0 → a ≠ b → (TJ0 a).2.1 ≠ (TJ0 b).2.1 := by decide +kernel
theorem tyJ0_ok : ∀ k, k < 0 → parseFieldDescriptor (TJ0 k).2.2.1 = some (tyJ0 k) := by decide +kernel
abbrev cJ0_charAt_5068e : ByteArray := prog_30_method_56_code
def yJ0_charAt_5068e : MethodName := ⟨RJ0, "charAt", "(I)C"⟩
abbrev cJ0_isLatin1_aae02 : ByteArray := prog_30_method_154_code
def yJ0_isLatin1_aae02 : MethodName := ⟨RJ0, "isLatin1", "()Z"⟩
abbrev cJ0_checkIndex_df160 : ByteArray := prog_30_method_155_code
def yJ0_checkIndex_df160 : MethodName := ⟨RJ0, "checkIndex", "(II)V"⟩
def RJ1 : String := "java/lang/StringLatin1"
def TJ1 : u_T := fun k => match k with
  | _ => ("", "", "", false)
def tyJ1 : Nat → FieldType := fun k => match k with
  | _ => .int
theorem nmJ1 : ∀ a, a < 0 → ∀ b, b < 0 → a ≠ b → (TJ1 a).2.1 ≠ (TJ1 b).2.1 := by decide +kernel
theorem tyJ1_ok : ∀ k, k < 0 → parseFieldDescriptor (TJ1 k).2.2.1 = some (tyJ1 k) := by decide +kernel
abbrev cJ1_charAt_3b067 : ByteArray := prog_31_method_2_code
def yJ1_charAt_3b067 : MethodName := ⟨RJ1, "charAt", "([BI)C"⟩
def RJ2 : String := "java/lang/StringUTF16"
def TJ2 : u_T := fun k => match k with
  | _ => ("", "", "", false)
def tyJ2 : Nat → FieldType := fun k => match k with
  | _ => .int
theorem nmJ2 : ∀ a, a < 0 → ∀ b, b < 0 → a ≠ b → (TJ2 a).2.1 ≠ (TJ2 b).2.1 := by decide +kernel
theorem tyJ2_ok : ∀ k, k < 0 → parseFieldDescriptor (TJ2 k).2.2.1 = some (tyJ2 k) := by decide +kernel
abbrev cJ2_getChar_3b067 : ByteArray := prog_32_method_5_code
def yJ2_getChar_3b067 : MethodName := ⟨RJ2, "getChar", "([BI)C"⟩
abbrev cJ2_length_9d52b : ByteArray := prog_32_method_6_code
def yJ2_length_9d52b : MethodName := ⟨RJ2, "length", "([B)I"⟩
abbrev cJ2_charAt_3b067 : ByteArray := prog_32_method_83_code
def yJ2_charAt_3b067 : MethodName := ⟨RJ2, "charAt", "([BI)C"⟩
abbrev cJ2_checkIndex_2214a : ByteArray := prog_32_method_91_code
def yJ2_checkIndex_2214a : MethodName := ⟨RJ2, "checkIndex", "(I[B)V"⟩
def RJ10 : String := "java/lang/System"
def TJ10 : u_T := fun k => match k with
  | _ => ("", "", "", false)
def tyJ10 : Nat → FieldType := fun k => match k with
  | _ => .int
theorem nmJ10 : ∀ a, a < 0 → ∀ b, b < 0 → a ≠ b → (TJ10 a).2.1 ≠ (TJ10 b).2.1 := by decide +kernel
theorem tyJ10_ok : ∀ k, k < 0 → parseFieldDescriptor (TJ10 k).2.2.1 = some (tyJ10 k) := by decide +kernel
def RJxfd54e : String := "java/lang/constant/Constable"
def TJxfd54e : u_T := fun k => match k with
  | _ => ("", "", "", false)
def tyJxfd54e : Nat → FieldType := fun k => match k with
  | _ => .int
theorem nmJxfd54e : ∀ a, a < 0 → ∀ b, b < 0 → a ≠ b → (TJxfd54e a).2.1 ≠ (TJxfd54e b).2.1 := by decide +kernel
theorem tyJxfd54e_ok : ∀ k, k < 0 → parseFieldDescriptor (TJxfd54e k).2.2.1 = some (tyJxfd54e k) := by decide +kernel
def RJx3cf43 : String := "java/lang/constant/ConstantDesc"
def TJx3cf43 : u_T := fun k => match k with
  | _ => ("", "", "", false)
def tyJx3cf43 : Nat → FieldType := fun k => match k with
  | _ => .int
theorem nmJx3cf43 : ∀ a, a < 0 → ∀ b, b < 0 → a ≠ b → (TJx3cf43 a).2.1 ≠ (TJx3cf43 b).2.1 := by decide +kernel
theorem tyJx3cf43_ok : ∀ k, k < 0 → parseFieldDescriptor (TJx3cf43 k).2.2.1 = some (tyJx3cf43 k) := by decide +kernel
def RJxa1e45 : String := "java/util/AbstractCollection"
def TJxa1e45 : u_T := fun k => match k with
  | _ => ("", "", "", false)
def tyJxa1e45 : Nat → FieldType := fun k => match k with
  | _ => .int
theorem nmJxa1e45 : ∀ a, a < 0 → ∀ b, b < 0 → a ≠ b → (TJxa1e45 a).2.1 ≠ (TJxa1e45 b).2.1 := by decide +kernel
theorem tyJxa1e45_ok : ∀ k, k < 0 → parseFieldDescriptor (TJxa1e45 k).2.2.1 = some (tyJxa1e45 k) := by decide +kernel
abbrev cJxa1e45_init_da8c8 : ByteArray := prog_38_method_1_code
def yJxa1e45_init_da8c8 : MethodName := ⟨RJxa1e45, "<init>", "()V"⟩
def RJxc12de : String := "java/util/AbstractList"
def TJxc12de : u_T := fun k => match k with
  | _ => ("", "", "", false)
def tyJxc12de : Nat → FieldType := fun k => match k with
  | _ => .int
theorem nmJxc12de : ∀ a, a < 0 → ∀ b, b < 0 → a ≠ b → (TJxc12de a).2.1 ≠ (TJxc12de b).2.1 := by decide +kernel
theorem tyJxc12de_ok : ∀ k, k < 0 → parseFieldDescriptor (TJxc12de k).2.2.1 = some (tyJxc12de k) := by decide +kernel
abbrev cJxc12de_init_da8c8 : ByteArray := prog_39_method_1_code
def yJxc12de_init_da8c8 : MethodName := ⟨RJxc12de, "<init>", "()V"⟩
def RJx4a65c : String := "java/util/ArrayList"
def TJx4a65c : u_T := fun k => match k with
  | 0 => ("java/util/AbstractList", "modCount", "I", false)
  | 1 => ("java/util/ArrayList", "elementData", "[Ljava/lang/Object;", false)
  | _ => ("java/util/ArrayList", "size", "I", false)
def tyJx4a65c : Nat → FieldType := fun k => match k with
  | 0 => .int
  | 1 => .array (.object "java/lang/Object")
  | _ => .int
theorem nmJx4a65c : ∀ a, a < 3 → ∀ b, b < 3 → a ≠ b → (TJx4a65c a).2.1 ≠ (TJx4a65c b).2.1 := by decide +kernel
theorem tyJx4a65c_ok : ∀ k, k < 3 → parseFieldDescriptor (TJx4a65c k).2.2.1 = some (tyJx4a65c k) := by decide +kernel
abbrev cJx4a65c_init_da8c8 : ByteArray := prog_40_method_2_code
def yJx4a65c_init_da8c8 : MethodName := ⟨RJx4a65c, "<init>", "()V"⟩
abbrev cJx4a65c_grow_92f84 : ByteArray := prog_40_method_6_code
def yJx4a65c_grow_92f84 : MethodName := ⟨RJx4a65c, "grow", "(I)[Ljava/lang/Object;"⟩
abbrev cJx4a65c_grow_d5877 : ByteArray := prog_40_method_7_code
def yJx4a65c_grow_d5877 : MethodName := ⟨RJx4a65c, "grow", "()[Ljava/lang/Object;"⟩
abbrev cJx4a65c_size_8abf5 : ByteArray := prog_40_method_8_code
def yJx4a65c_size_8abf5 : MethodName := ⟨RJx4a65c, "size", "()I"⟩
abbrev cJx4a65c_elementData_915e3 : ByteArray := prog_40_method_18_code
def yJx4a65c_elementData_915e3 : MethodName := ⟨RJx4a65c, "elementData", "(I)Ljava/lang/Object;"⟩
abbrev cJx4a65c_get_915e3 : ByteArray := prog_40_method_20_code
def yJx4a65c_get_915e3 : MethodName := ⟨RJx4a65c, "get", "(I)Ljava/lang/Object;"⟩
abbrev cJx4a65c_add_72be8 : ByteArray := prog_40_method_24_code
def yJx4a65c_add_72be8 : MethodName := ⟨RJx4a65c, "add", "(Ljava/lang/Object;[Ljava/lang/Object;I)V"⟩
abbrev cJx4a65c_add_9ea2d : ByteArray := prog_40_method_25_code
def yJx4a65c_add_9ea2d : MethodName := ⟨RJx4a65c, "add", "(Ljava/lang/Object;)Z"⟩
def RJ7 : String := "java/util/Arrays"
def TJ7 : u_T := fun k => match k with
  | _ => ("", "", "", false)
def tyJ7 : Nat → FieldType := fun k => match k with
  | _ => .int
theorem nmJ7 : ∀ a, a < 0 → ∀ b, b < 0 → a ≠ b → (TJ7 a).2.1 ≠ (TJ7 b).2.1 := by decide +kernel
theorem tyJ7_ok : ∀ k, k < 0 → parseFieldDescriptor (TJ7 k).2.2.1 = some (tyJ7 k) := by decide +kernel
abbrev cJ7_fill_53178 : ByteArray := prog_41_method_103_code
def yJ7_fill_53178 : MethodName := ⟨RJ7, "fill", "([II)V"⟩
abbrev cJ7_copyOf_1904c : ByteArray := prog_41_method_119_code
def yJ7_copyOf_1904c : MethodName := ⟨RJ7, "copyOf", "([Ljava/lang/Object;I)[Ljava/lang/Object;"⟩
abbrev cJ7_copyOf_6403c : ByteArray := prog_41_method_120_code
def yJ7_copyOf_6403c : MethodName := ⟨RJ7, "copyOf", "([Ljava/lang/Object;ILjava/lang/Class;)[Ljava/lang/Object;"⟩
abbrev cJ7_copyOf_59c91 : ByteArray := prog_41_method_123_code
def yJ7_copyOf_59c91 : MethodName := ⟨RJ7, "copyOf", "([II)[I"⟩
def RJx5ef63 : String := "java/util/Collection"
def TJx5ef63 : u_T := fun k => match k with
  | _ => ("", "", "", false)
def tyJx5ef63 : Nat → FieldType := fun k => match k with
  | _ => .int
theorem nmJx5ef63 : ∀ a, a < 0 → ∀ b, b < 0 → a ≠ b → (TJx5ef63 a).2.1 ≠ (TJx5ef63 b).2.1 := by decide +kernel
theorem tyJx5ef63_ok : ∀ k, k < 0 → parseFieldDescriptor (TJx5ef63 k).2.2.1 = some (tyJx5ef63 k) := by decide +kernel
def RJxbd725 : String := "java/util/List"
def TJxbd725 : u_T := fun k => match k with
  | _ => ("", "", "", false)
def tyJxbd725 : Nat → FieldType := fun k => match k with
  | _ => .int
theorem nmJxbd725 : ∀ a, a < 0 → ∀ b, b < 0 → a ≠ b → (TJxbd725 a).2.1 ≠ (TJxbd725 b).2.1 := by decide +kernel
theorem tyJxbd725_ok : ∀ k, k < 0 → parseFieldDescriptor (TJxbd725 k).2.2.1 = some (tyJxbd725 k) := by decide +kernel
def RJ15 : String := "java/util/Objects"
def TJ15 : u_T := fun k => match k with
  | _ => ("", "", "", false)
def tyJ15 : Nat → FieldType := fun k => match k with
  | _ => .int
theorem nmJ15 : ∀ a, a < 0 → ∀ b, b < 0 → a ≠ b → (TJ15 a).2.1 ≠ (TJ15 b).2.1 := by decide +kernel
theorem tyJ15_ok : ∀ k, k < 0 → parseFieldDescriptor (TJ15 k).2.2.1 = some (tyJ15 k) := by decide +kernel
abbrev cJ15_checkIndex_7cf53 : ByteArray := prog_45_method_17_code
def yJ15_checkIndex_7cf53 : MethodName := ⟨RJ15, "checkIndex", "(II)I"⟩
def RJxf0a74 : String := "java/util/RandomAccess"
def TJxf0a74 : u_T := fun k => match k with
  | _ => ("", "", "", false)
def tyJxf0a74 : Nat → FieldType := fun k => match k with
  | _ => .int
theorem nmJxf0a74 : ∀ a, a < 0 → ∀ b, b < 0 → a ≠ b → (TJxf0a74 a).2.1 ≠ (TJxf0a74 b).2.1 := by decide +kernel
theorem tyJxf0a74_ok : ∀ k, k < 0 → parseFieldDescriptor (TJxf0a74 k).2.2.1 = some (tyJxf0a74 k) := by decide +kernel
def RJxa66e6 : String := "java/util/SequencedCollection"
def TJxa66e6 : u_T := fun k => match k with
  | _ => ("", "", "", false)
def tyJxa66e6 : Nat → FieldType := fun k => match k with
  | _ => .int
theorem nmJxa66e6 : ∀ a, a < 0 → ∀ b, b < 0 → a ≠ b → (TJxa66e6 a).2.1 ≠ (TJxa66e6 b).2.1 := by decide +kernel
theorem tyJxa66e6_ok : ∀ k, k < 0 → parseFieldDescriptor (TJxa66e6 k).2.2.1 = some (tyJxa66e6 k) := by decide +kernel
def RJ8 : String := "jdk/internal/util/ArraysSupport"
def TJ8 : u_T := fun k => match k with
  | _ => ("", "", "", false)
def tyJ8 : Nat → FieldType := fun k => match k with
  | _ => .int
theorem nmJ8 : ∀ a, a < 0 → ∀ b, b < 0 → a ≠ b → (TJ8 a).2.1 ≠ (TJ8 b).2.1 := by decide +kernel
theorem tyJ8_ok : ∀ k, k < 0 → parseFieldDescriptor (TJ8 k).2.2.1 = some (tyJ8 k) := by decide +kernel
abbrev cJ8_newLength_cabcc : ByteArray := prog_48_method_27_code
def yJ8_newLength_cabcc : MethodName := ⟨RJ8, "newLength", "(III)I"⟩
abbrev cJ8_hugeLength_7cf53 : ByteArray := prog_48_method_28_code
def yJ8_hugeLength_7cf53 : MethodName := ⟨RJ8, "hugeLength", "(II)I"⟩
def RJ3 : String := "jdk/internal/util/Preconditions"
def TJ3 : u_T := fun k => match k with
  | _ => ("", "", "", false)
def tyJ3 : Nat → FieldType := fun k => match k with
  | _ => .int
theorem nmJ3 : ∀ a, a < 0 → ∀ b, b < 0 → a ≠ b → (TJ3 a).2.1 ≠ (TJ3 b).2.1 := by decide +kernel
theorem tyJ3_ok : ∀ k, k < 0 → parseFieldDescriptor (TJ3 k).2.2.1 = some (tyJ3 k) := by decide +kernel
abbrev cJ3_checkIndex_8e157 : ByteArray := prog_49_method_11_code
def yJ3_checkIndex_8e157 : MethodName := ⟨RJ3, "checkIndex", "(IILjava/util/function/BiFunction;)I"⟩
def RL : String := "PersistentParlourLaw"
abbrev cL_cell : ByteArray := method_2_code
def yL_cell : MethodName := ⟨RL, "cell", "([II)I"⟩
abbrev cL_pick : ByteArray := method_3_code
def yL_pick : MethodName := ⟨RL, "pick", "([III)I"⟩
abbrev cL_told : ByteArray := method_4_code
def yL_told : MethodName := ⟨RL, "told", "(Z)I"⟩
abbrev cL_plain : ByteArray := method_5_code
def yL_plain : MethodName := ⟨RL, "plain", "(LPersistentParlour;IIII)I"⟩
abbrev cL_deed : ByteArray := method_6_code
def yL_deed : MethodName := ⟨RL, "deed", "(LPersistentParlour;IIII)I"⟩
abbrev cL_asked : ByteArray := method_7_code
def yL_asked : MethodName := ⟨RL, "asked", "(LPersistentParlour;III)I"⟩
abbrev cL_ask : ByteArray := method_8_code
def yL_ask : MethodName := ⟨RL, "ask", "(LPersistentParlour;III)I"⟩
abbrev cL_isLike : ByteArray := method_9_code
def yL_isLike : MethodName := ⟨RL, "isLike", "(LPersistentParlour;I[I)Z"⟩
abbrev cL_isMade : ByteArray := method_10_code
def yL_isMade : MethodName := ⟨RL, "isMade", "(LPersistentParlour;IIJ)Z"⟩
abbrev cL_value : ByteArray := method_11_code
def yL_value : MethodName := ⟨RL, "value", "(LPersistentParlour;[II[[I[I)Z"⟩
abbrev cL_sequence : ByteArray := method_12_code
def yL_sequence : MethodName := ⟨RL, "sequence", "(LPersistentParlour;[II[I)Z"⟩
abbrev cL_transact : ByteArray := method_13_code
def yL_transact : MethodName := ⟨RL, "transact", "(LPersistentParlour;[II[I[Z)Z"⟩
abbrev cL_areReferences : ByteArray := method_14_code
def yL_areReferences : MethodName := ⟨RL, "areReferences", "(LPersistentParlour;I)Z"⟩
abbrev cL_law : ByteArray := code
def yL_law : MethodName := ⟨RL, "law", "([I)Z"⟩
abbrev vwCl : List vw_C := [(RJx4a65c, TJx4a65c, 3), (RJx4a65c, TJx4a65c, 3), (RJx4a65c, TJx4a65c, 3), (RX0, TX0, 7), (RX1, TX1, 4), (RX3, TX3, 7), (RX4, TX4, 1), (RX5, TX5, 7), (RX6, TX6, 9), (RX7, TX7, 10), (RX8, TX8, 5), (RX10, TX10, 2), (RX11, TX11, 14), (RX0, TX0, 7), (RX0, TX0, 7), (RX0, TX0, 7), (RX0, TX0, 7), (RX0, TX0, 7)]
