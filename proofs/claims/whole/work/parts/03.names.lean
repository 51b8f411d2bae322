def RX0 : String := "PersistentParlour$Agent"
def TX0 : u_T := fun k => match k with
  | 0 => ("PersistentParlour$Agent", "value", "I", false)
  | 1 => ("PersistentParlour$Agent", "least", "I", true)
  | 2 => ("PersistentParlour$Agent", "greatest", "I", true)
  | 3 => ("PersistentParlour$Agent", "failsOnError", "Z", true)
  | 4 => ("PersistentParlour$Agent", "waiting", "LPersistentParlour$WaitingRow;", true)
  | 5 => ("PersistentParlour$Agent", "errorCount", "I", false)
  | _ => ("PersistentParlour$Agent", "failed", "Z", false)
def tyX0 : Nat → FieldType := fun k => match k with
  | 0 => .int
  | 1 => .int
  | 2 => .int
  | 3 => .boolean
  | 4 => .object "PersistentParlour$WaitingRow"
  | 5 => .int
  | _ => .boolean
theorem nmX0 : ∀ a, a < 7 → ∀ b, b < 7 → a ≠ b → (TX0 a).2.1 ≠ (TX0 b).2.1 := by decide +kernel
theorem tyX0_ok : ∀ k, k < 7 → parseFieldDescriptor (TX0 k).2.2.1 = some (tyX0 k) := by decide +kernel
abbrev cX0_init : ByteArray := prog_2_method_1_code
def yX0_init : MethodName := ⟨RX0, "<init>", "(IIIZ)V"⟩
abbrev cX0_takeNumber : ByteArray := prog_2_method_2_code
def yX0_takeNumber : MethodName := ⟨RX0, "takeNumber", "()V"⟩
def RX1 : String := "PersistentParlour$LogEntry"
def TX1 : u_T := fun k => match k with
  | 0 => ("PersistentParlour$LogEntry", "cameIn", "I", true)
  | 1 => ("PersistentParlour$LogEntry", "reference", "I", true)
  | 2 => ("PersistentParlour$LogEntry", "before", "I", true)
  | _ => ("PersistentParlour$LogEntry", "after", "I", true)
def tyX1 : Nat → FieldType := fun k => match k with
  | 0 => .int
  | 1 => .int
  | 2 => .int
  | _ => .int
theorem nmX1 : ∀ a, a < 4 → ∀ b, b < 4 → a ≠ b → (TX1 a).2.1 ≠ (TX1 b).2.1 := by decide +kernel
theorem tyX1_ok : ∀ k, k < 4 → parseFieldDescriptor (TX1 k).2.2.1 = some (tyX1 k) := by decide +kernel
abbrev cX1_init : ByteArray := prog_3_method_1_code
def yX1_init : MethodName := ⟨RX1, "<init>", "(IIII)V"⟩
def RX2 : String := "PersistentParlour$MapWork"
def TX2 : u_T := fun k => match k with
  | _ => ("", "", "", false)
def tyX2 : Nat → FieldType := fun k => match k with
  | _ => .int
theorem nmX2 : ∀ a, a < 0 → ∀ b, b < 0 → a ≠ b → (TX2 a).2.1 ≠ (TX2 b).2.1 := by decide +kernel
theorem tyX2_ok : ∀ k, k < 0 → parseFieldDescriptor (TX2 k).2.2.1 = some (tyX2 k) := by decide +kernel
abbrev cX2_placeOf : ByteArray := prog_4_method_2_code
def yX2_placeOf : MethodName := ⟨RX2, "placeOf", "(II)I"⟩
abbrev cX2_holderOf : ByteArray := prog_4_method_3_code
def yX2_holderOf : MethodName := ⟨RX2, "holderOf", "(LPersistentParlour$Node;I)LPersistentParlour$Node;"⟩
abbrev cX2_withPair : ByteArray := prog_4_method_4_code
def yX2_withPair : MethodName := ⟨RX2, "withPair", "(LPersistentParlour$NodeMaker;LPersistentParlour$Node;II)LPersistentParlour$Node;"⟩
abbrev cX2_changeableChild : ByteArray := prog_4_method_5_code
def yX2_changeableChild : MethodName := ⟨RX2, "changeableChild", "(LPersistentParlour$NodeMaker;LPersistentParlour$Node;I)LPersistentParlour$Node;"⟩
abbrev cX2_lowered : ByteArray := prog_4_method_6_code
def yX2_lowered : MethodName := ⟨RX2, "lowered", "(LPersistentParlour$NodeMaker;LPersistentParlour$Node;I)LPersistentParlour$Node;"⟩
abbrev cX2_withoutKey : ByteArray := prog_4_method_7_code
def yX2_withoutKey : MethodName := ⟨RX2, "withoutKey", "(LPersistentParlour$NodeMaker;LPersistentParlour$Node;I)LPersistentParlour$Node;"⟩
abbrev cX2_lift : ByteArray := prog_4_method_8_code
def yX2_lift : MethodName := ⟨RX2, "lift", "(LPersistentParlour$Node;ILPersistentParlour$Node;I)V"⟩
abbrev cX2_dropFromRow : ByteArray := prog_4_method_9_code
def yX2_dropFromRow : MethodName := ⟨RX2, "dropFromRow", "(LPersistentParlour$Node;I)V"⟩
def RX3 : String := "PersistentParlour$Node"
def TX3 : u_T := fun k => match k with
  | 0 => ("PersistentParlour$Node", "level", "I", true)
  | 1 => ("PersistentParlour$Node", "owner", "I", true)
  | 2 => ("PersistentParlour$Node", "keys", "[I", true)
  | 3 => ("PersistentParlour$Node", "elements", "[I", true)
  | 4 => ("PersistentParlour$Node", "below", "[LPersistentParlour$Node;", true)
  | 5 => ("PersistentParlour$Node", "keyCount", "I", false)
  | _ => ("PersistentParlour$Node", "mark", "I", false)
def tyX3 : Nat → FieldType := fun k => match k with
  | 0 => .int
  | 1 => .int
  | 2 => .array .int
  | 3 => .array .int
  | 4 => .array (.object "PersistentParlour$Node")
  | 5 => .int
  | _ => .int
theorem nmX3 : ∀ a, a < 7 → ∀ b, b < 7 → a ≠ b → (TX3 a).2.1 ≠ (TX3 b).2.1 := by decide +kernel
theorem tyX3_ok : ∀ k, k < 7 → parseFieldDescriptor (TX3 k).2.2.1 = some (tyX3 k) := by decide +kernel
abbrev cX3_init : ByteArray := prog_5_method_1_code
def yX3_init : MethodName := ⟨RX3, "<init>", "(II[I[I[LPersistentParlour$Node;)V"⟩
abbrev cX3_childAt : ByteArray := prog_5_method_2_code
def yX3_childAt : MethodName := ⟨RX3, "childAt", "(I)LPersistentParlour$Node;"⟩
abbrev cX3_putChild : ByteArray := prog_5_method_3_code
def yX3_putChild : MethodName := ⟨RX3, "putChild", "(ILPersistentParlour$Node;)V"⟩
abbrev cX3_elementAt : ByteArray := prog_5_method_4_code
def yX3_elementAt : MethodName := ⟨RX3, "elementAt", "(I)I"⟩
abbrev cX3_putElement : ByteArray := prog_5_method_5_code
def yX3_putElement : MethodName := ⟨RX3, "putElement", "(II)V"⟩
abbrev cX3_keyAt : ByteArray := prog_5_method_6_code
def yX3_keyAt : MethodName := ⟨RX3, "keyAt", "(I)I"⟩
abbrev cX3_putPair : ByteArray := prog_5_method_7_code
def yX3_putPair : MethodName := ⟨RX3, "putPair", "(III)V"⟩
abbrev cX3_slotOf : ByteArray := prog_5_method_8_code
def yX3_slotOf : MethodName := ⟨RX3, "slotOf", "(I)I"⟩
def RX4 : String := "PersistentParlour$NodeMaker"
def TX4 : u_T := fun k => match k with
  | _ => ("PersistentParlour$NodeMaker", "count", "J", false)
def tyX4 : Nat → FieldType := fun k => match k with
  | _ => .long
theorem nmX4 : ∀ a, a < 1 → ∀ b, b < 1 → a ≠ b → (TX4 a).2.1 ≠ (TX4 b).2.1 := by decide +kernel
theorem tyX4_ok : ∀ k, k < 1 → parseFieldDescriptor (TX4 k).2.2.1 = some (tyX4 k) := by decide +kernel
abbrev cX4_init : ByteArray := prog_6_method_1_code
def yX4_init : MethodName := ⟨RX4, "<init>", "()V"⟩
abbrev cX4_freshLeaf : ByteArray := prog_6_method_2_code
def yX4_freshLeaf : MethodName := ⟨RX4, "freshLeaf", "(I)LPersistentParlour$Node;"⟩
abbrev cX4_freshInner : ByteArray := prog_6_method_3_code
def yX4_freshInner : MethodName := ⟨RX4, "freshInner", "(I)LPersistentParlour$Node;"⟩
abbrev cX4_freshMapNode : ByteArray := prog_6_method_4_code
def yX4_freshMapNode : MethodName := ⟨RX4, "freshMapNode", "(I)LPersistentParlour$Node;"⟩
abbrev cX4_copyOf : ByteArray := prog_6_method_5_code
def yX4_copyOf : MethodName := ⟨RX4, "copyOf", "(LPersistentParlour$Node;I)LPersistentParlour$Node;"⟩
abbrev cX4_ownOrCopy : ByteArray := prog_6_method_6_code
def yX4_ownOrCopy : MethodName := ⟨RX4, "ownOrCopy", "(LPersistentParlour$Node;I)LPersistentParlour$Node;"⟩
def RX5 : String := "PersistentParlour$Reference"
def TX5 : u_T := fun k => match k with
  | 0 => ("PersistentParlour$Reference", "firstValue", "I", true)
  | 1 => ("PersistentParlour$Reference", "least", "I", true)
  | 2 => ("PersistentParlour$Reference", "greatest", "I", true)
  | 3 => ("PersistentParlour$Reference", "pastValues", "[I", true)
  | 4 => ("PersistentParlour$Reference", "pastMoments", "[I", true)
  | 5 => ("PersistentParlour$Reference", "kept", "I", false)
  | _ => ("PersistentParlour$Reference", "limit", "I", false)
def tyX5 : Nat → FieldType := fun k => match k with
  | 0 => .int
  | 1 => .int
  | 2 => .int
  | 3 => .array .int
  | 4 => .array .int
  | 5 => .int
  | _ => .int
theorem nmX5 : ∀ a, a < 7 → ∀ b, b < 7 → a ≠ b → (TX5 a).2.1 ≠ (TX5 b).2.1 := by decide +kernel
theorem tyX5_ok : ∀ k, k < 7 → parseFieldDescriptor (TX5 k).2.2.1 = some (tyX5 k) := by decide +kernel
abbrev cX5_init : ByteArray := prog_7_method_1_code
def yX5_init : MethodName := ⟨RX5, "<init>", "(III)V"⟩
abbrev cX5_latestValue : ByteArray := prog_7_method_2_code
def yX5_latestValue : MethodName := ⟨RX5, "latestValue", "()I"⟩
abbrev cX5_latestMoment : ByteArray := prog_7_method_3_code
def yX5_latestMoment : MethodName := ⟨RX5, "latestMoment", "()I"⟩
abbrev cX5_valueAt : ByteArray := prog_7_method_4_code
def yX5_valueAt : MethodName := ⟨RX5, "valueAt", "(I)I"⟩
abbrev cX5_momentAt : ByteArray := prog_7_method_5_code
def yX5_momentAt : MethodName := ⟨RX5, "momentAt", "(I)I"⟩
abbrev cX5_entryNotBehind : ByteArray := prog_7_method_6_code
def yX5_entryNotBehind : MethodName := ⟨RX5, "entryNotBehind", "(I)I"⟩
abbrev cX5_raiseLimit : ByteArray := prog_7_method_7_code
def yX5_raiseLimit : MethodName := ⟨RX5, "raiseLimit", "()V"⟩
abbrev cX5_come : ByteArray := prog_7_method_8_code
def yX5_come : MethodName := ⟨RX5, "come", "(II)V"⟩
abbrev cX5_dropOldest : ByteArray := prog_7_method_9_code
def yX5_dropOldest : MethodName := ⟨RX5, "dropOldest", "()V"⟩
def RX6 : String := "PersistentParlour$Sequence"
def TX6 : u_T := fun k => match k with
  | 0 => ("PersistentParlour$Sequence", "source", "LPersistentParlour$Sequence;", true)
  | 1 => ("PersistentParlour$Sequence", "way", "C", true)
  | 2 => ("PersistentParlour$Sequence", "number", "I", true)
  | 3 => ("PersistentParlour$Sequence", "elements", "[I", true)
  | 4 => ("PersistentParlour$Sequence", "count", "I", false)
  | 5 => ("PersistentParlour$Sequence", "ends", "[I", true)
  | 6 => ("PersistentParlour$Sequence", "chunkCount", "I", false)
  | 7 => ("PersistentParlour$Sequence", "broken", "Z", false)
  | _ => ("PersistentParlour$Sequence", "realisedChunks", "I", false)
def tyX6 : Nat → FieldType := fun k => match k with
  | 0 => .object "PersistentParlour$Sequence"
  | 1 => .char
  | 2 => .int
  | 3 => .array .int
  | 4 => .int
  | 5 => .array .int
  | 6 => .int
  | 7 => .boolean
  | _ => .int
theorem nmX6 : ∀ a, a < 9 → ∀ b, b < 9 → a ≠ b → (TX6 a).2.1 ≠ (TX6 b).2.1 := by decide +kernel
theorem tyX6_ok : ∀ k, k < 9 → parseFieldDescriptor (TX6 k).2.2.1 = some (tyX6 k) := by decide +kernel
abbrev cX6_init : ByteArray := prog_8_method_1_code
def yX6_init : MethodName := ⟨RX6, "<init>", "(LPersistentParlour$Sequence;CI)V"⟩
abbrev cX6_fillRange : ByteArray := prog_8_method_2_code
def yX6_fillRange : MethodName := ⟨RX6, "fillRange", "(III)V"⟩
abbrev cX6_fillFirst : ByteArray := prog_8_method_3_code
def yX6_fillFirst : MethodName := ⟨RX6, "fillFirst", "()V"⟩
abbrev cX6_fillByChunks : ByteArray := prog_8_method_4_code
def yX6_fillByChunks : MethodName := ⟨RX6, "fillByChunks", "()V"⟩
abbrev cX6_takeFrom : ByteArray := prog_8_method_5_code
def yX6_takeFrom : MethodName := ⟨RX6, "takeFrom", "(I)V"⟩
abbrev cX6_hasZero : ByteArray := prog_8_method_6_code
def yX6_hasZero : MethodName := ⟨RX6, "hasZero", "(II)Z"⟩
abbrev cX6_elementAt : ByteArray := prog_8_method_7_code
def yX6_elementAt : MethodName := ⟨RX6, "elementAt", "(I)I"⟩
abbrev cX6_takeElement : ByteArray := prog_8_method_8_code
def yX6_takeElement : MethodName := ⟨RX6, "takeElement", "(I)V"⟩
abbrev cX6_closeChunk : ByteArray := prog_8_method_9_code
def yX6_closeChunk : MethodName := ⟨RX6, "closeChunk", "()V"⟩
abbrev cX6_elementsIn : ByteArray := prog_8_method_10_code
def yX6_elementsIn : MethodName := ⟨RX6, "elementsIn", "(I)I"⟩
abbrev cX6_chunksFor : ByteArray := prog_8_method_11_code
def yX6_chunksFor : MethodName := ⟨RX6, "chunksFor", "(I)I"⟩
abbrev cX6_endsWithSource : ByteArray := prog_8_method_12_code
def yX6_endsWithSource : MethodName := ⟨RX6, "endsWithSource", "()Z"⟩
abbrev cX6_sourceChunksFor : ByteArray := prog_8_method_13_code
def yX6_sourceChunksFor : MethodName := ⟨RX6, "sourceChunksFor", "(IZ)I"⟩
def RX7 : String := "PersistentParlour$Transaction"
def TX7 : u_T := fun k => match k with
  | 0 => ("PersistentParlour$Transaction", "running", "Z", false)
  | 1 => ("PersistentParlour$Transaction", "birth", "I", false)
  | 2 => ("PersistentParlour$Transaction", "point", "I", false)
  | 3 => ("PersistentParlour$Transaction", "timesBack", "I", false)
  | 4 => ("PersistentParlour$Transaction", "written", "[Z", true)
  | 5 => ("PersistentParlour$Transaction", "own", "[I", true)
  | 6 => ("PersistentParlour$Transaction", "ensured", "[Z", true)
  | 7 => ("PersistentParlour$Transaction", "adding", "[Z", true)
  | 8 => ("PersistentParlour$Transaction", "sums", "[I", true)
  | _ => ("PersistentParlour$Transaction", "outgoing", "[LPersistentParlour$WaitingRow;", true)
def tyX7 : Nat → FieldType := fun k => match k with
  | 0 => .boolean
  | 1 => .int
  | 2 => .int
  | 3 => .int
  | 4 => .array .boolean
  | 5 => .array .int
  | 6 => .array .boolean
  | 7 => .array .boolean
  | 8 => .array .int
  | _ => .array (.object "PersistentParlour$WaitingRow")
theorem nmX7 : ∀ a, a < 10 → ∀ b, b < 10 → a ≠ b → (TX7 a).2.1 ≠ (TX7 b).2.1 := by decide +kernel
theorem tyX7_ok : ∀ k, k < 10 → parseFieldDescriptor (TX7 k).2.2.1 = some (tyX7 k) := by decide +kernel
abbrev cX7_init : ByteArray := prog_9_method_1_code
def yX7_init : MethodName := ⟨RX7, "<init>", "()V"⟩
abbrev cX7_start : ByteArray := prog_9_method_2_code
def yX7_start : MethodName := ⟨RX7, "start", "(II)V"⟩
abbrev cX7_goBack : ByteArray := prog_9_method_3_code
def yX7_goBack : MethodName := ⟨RX7, "goBack", "(I)V"⟩
abbrev cX7_stop : ByteArray := prog_9_method_4_code
def yX7_stop : MethodName := ⟨RX7, "stop", "()V"⟩
abbrev cX7_forget : ByteArray := prog_9_method_5_code
def yX7_forget : MethodName := ⟨RX7, "forget", "()V"⟩
abbrev cX7_holds : ByteArray := prog_9_method_6_code
def yX7_holds : MethodName := ⟨RX7, "holds", "(IZ)Z"⟩
abbrev cX7_changes : ByteArray := prog_9_method_7_code
def yX7_changes : MethodName := ⟨RX7, "changes", "(I)Z"⟩
def RX8 : String := "PersistentParlour$Value"
def TX8 : u_T := fun k => match k with
  | 0 => ("PersistentParlour$Value", "kind", "I", false)
  | 1 => ("PersistentParlour$Value", "top", "LPersistentParlour$Node;", false)
  | 2 => ("PersistentParlour$Value", "size", "I", false)
  | 3 => ("PersistentParlour$Value", "plainKeys", "[I", true)
  | _ => ("PersistentParlour$Value", "plainElements", "[I", true)
def tyX8 : Nat → FieldType := fun k => match k with
  | 0 => .int
  | 1 => .object "PersistentParlour$Node"
  | 2 => .int
  | 3 => .array .int
  | _ => .array .int
theorem nmX8 : ∀ a, a < 5 → ∀ b, b < 5 → a ≠ b → (TX8 a).2.1 ≠ (TX8 b).2.1 := by decide +kernel
theorem tyX8_ok : ∀ k, k < 5 → parseFieldDescriptor (TX8 k).2.2.1 = some (tyX8 k) := by decide +kernel
abbrev cX8_init : ByteArray := prog_10_method_1_code
def yX8_init : MethodName := ⟨RX8, "<init>", "(ILPersistentParlour$Node;I[I[I)V"⟩
abbrev cX8_isLiveVector : ByteArray := prog_10_method_2_code
def yX8_isLiveVector : MethodName := ⟨RX8, "isLiveVector", "()Z"⟩
abbrev cX8_plainSlotOf : ByteArray := prog_10_method_3_code
def yX8_plainSlotOf : MethodName := ⟨RX8, "plainSlotOf", "(I)I"⟩
abbrev cX8_plainKeyAt : ByteArray := prog_10_method_4_code
def yX8_plainKeyAt : MethodName := ⟨RX8, "plainKeyAt", "(I)I"⟩
abbrev cX8_plainElementAt : ByteArray := prog_10_method_5_code
def yX8_plainElementAt : MethodName := ⟨RX8, "plainElementAt", "(I)I"⟩
abbrev cX8_putPlain : ByteArray := prog_10_method_6_code
def yX8_putPlain : MethodName := ⟨RX8, "putPlain", "(II)V"⟩
abbrev cX8_putPlainPair : ByteArray := prog_10_method_7_code
def yX8_putPlainPair : MethodName := ⟨RX8, "putPlainPair", "(III)V"⟩
abbrev cX8_spend : ByteArray := prog_10_method_8_code
def yX8_spend : MethodName := ⟨RX8, "spend", "()V"⟩
def RX9 : String := "PersistentParlour$VectorWork"
def TX9 : u_T := fun k => match k with
  | _ => ("", "", "", false)
def tyX9 : Nat → FieldType := fun k => match k with
  | _ => .int
theorem nmX9 : ∀ a, a < 0 → ∀ b, b < 0 → a ≠ b → (TX9 a).2.1 ≠ (TX9 b).2.1 := by decide +kernel
theorem tyX9_ok : ∀ k, k < 0 → parseFieldDescriptor (TX9 k).2.2.1 = some (tyX9 k) := by decide +kernel
abbrev cX9_depthFor : ByteArray := prog_11_method_2_code
def yX9_depthFor : MethodName := ⟨RX9, "depthFor", "(I)I"⟩
abbrev cX9_placeAt : ByteArray := prog_11_method_3_code
def yX9_placeAt : MethodName := ⟨RX9, "placeAt", "(II)I"⟩
abbrev cX9_elementIn : ByteArray := prog_11_method_4_code
def yX9_elementIn : MethodName := ⟨RX9, "elementIn", "(LPersistentParlour$Node;II)I"⟩
abbrev cX9_withOneMore : ByteArray := prog_11_method_5_code
def yX9_withOneMore : MethodName := ⟨RX9, "withOneMore", "(LPersistentParlour$NodeMaker;LPersistentParlour$Node;III)LPersistentParlour$Node;"⟩
abbrev cX9_withOther : ByteArray := prog_11_method_6_code
def yX9_withOther : MethodName := ⟨RX9, "withOther", "(LPersistentParlour$NodeMaker;LPersistentParlour$Node;IIII)LPersistentParlour$Node;"⟩
abbrev cX9_withOneLess : ByteArray := prog_11_method_7_code
def yX9_withOneLess : MethodName := ⟨RX9, "withOneLess", "(LPersistentParlour$NodeMaker;LPersistentParlour$Node;I)LPersistentParlour$Node;"⟩
abbrev cX9_putIn : ByteArray := prog_11_method_8_code
def yX9_putIn : MethodName := ⟨RX9, "putIn", "(LPersistentParlour$NodeMaker;LPersistentParlour$Node;IIII)V"⟩
abbrev cX9_changeableChild : ByteArray := prog_11_method_9_code
def yX9_changeableChild : MethodName := ⟨RX9, "changeableChild", "(LPersistentParlour$NodeMaker;LPersistentParlour$Node;III)LPersistentParlour$Node;"⟩
def RX10 : String := "PersistentParlour$WaitingRow"
def TX10 : u_T := fun k => match k with
  | 0 => ("PersistentParlour$WaitingRow", "numbers", "[I", true)
  | _ => ("PersistentParlour$WaitingRow", "count", "I", false)
def tyX10 : Nat → FieldType := fun k => match k with
  | 0 => .array .int
  | _ => .int
theorem nmX10 : ∀ a, a < 2 → ∀ b, b < 2 → a ≠ b → (TX10 a).2.1 ≠ (TX10 b).2.1 := by decide +kernel
theorem tyX10_ok : ∀ k, k < 2 → parseFieldDescriptor (TX10 k).2.2.1 = some (tyX10 k) := by decide +kernel
abbrev cX10_init : ByteArray := prog_12_method_1_code
def yX10_init : MethodName := ⟨RX10, "<init>", "()V"⟩
abbrev cX10_lineUp : ByteArray := prog_12_method_2_code
def yX10_lineUp : MethodName := ⟨RX10, "lineUp", "(I)V"⟩
abbrev cX10_lineUpAll : ByteArray := prog_12_method_3_code
def yX10_lineUpAll : MethodName := ⟨RX10, "lineUpAll", "(LPersistentParlour$WaitingRow;)V"⟩
abbrev cX10_takeFirst : ByteArray := prog_12_method_4_code
def yX10_takeFirst : MethodName := ⟨RX10, "takeFirst", "()I"⟩
def RX11 : String := "PersistentParlour"
def TX11 : u_T := fun k => match k with
  | 0 => ("PersistentParlour", "values", "[LPersistentParlour$Value;", true)
  | 1 => ("PersistentParlour", "valueCount", "I", false)
  | 2 => ("PersistentParlour", "maker", "LPersistentParlour$NodeMaker;", true)
  | 3 => ("PersistentParlour", "marks", "I", false)
  | 4 => ("PersistentParlour", "sequences", "[LPersistentParlour$Sequence;", true)
  | 5 => ("PersistentParlour", "sequenceCount", "I", false)
  | 6 => ("PersistentParlour", "references", "[LPersistentParlour$Reference;", true)
  | 7 => ("PersistentParlour", "referenceCount", "I", false)
  | 8 => ("PersistentParlour", "transactions", "[LPersistentParlour$Transaction;", true)
  | 9 => ("PersistentParlour", "births", "I", false)
  | 10 => ("PersistentParlour", "present", "I", false)
  | 11 => ("PersistentParlour", "log", "Ljava/util/ArrayList;", true)
  | 12 => ("PersistentParlour", "agents", "[LPersistentParlour$Agent;", true)
  | _ => ("PersistentParlour", "agentCount", "I", false)
def tyX11 : Nat → FieldType := fun k => match k with
  | 0 => .array (.object "PersistentParlour$Value")
  | 1 => .int
  | 2 => .object "PersistentParlour$NodeMaker"
  | 3 => .int
  | 4 => .array (.object "PersistentParlour$Sequence")
  | 5 => .int
  | 6 => .array (.object "PersistentParlour$Reference")
  | 7 => .int
  | 8 => .array (.object "PersistentParlour$Transaction")
  | 9 => .int
  | 10 => .int
  | 11 => .object "java/util/ArrayList"
  | 12 => .array (.object "PersistentParlour$Agent")
  | _ => .int
theorem nmX11 : ∀ a, a < 14 → ∀ b, b < 14 → a ≠ b → (TX11 a).2.1 ≠ (TX11 b).2.1 := by decide +kernel
theorem tyX11_ok : ∀ k, k < 14 → parseFieldDescriptor (TX11 k).2.2.1 = some (tyX11 k) := by decide +kernel
abbrev cX11_init : ByteArray := prog_1_method_1_code
def yX11_init : MethodName := ⟨RX11, "<init>", "()V"⟩
abbrev cX11_vector : ByteArray := prog_1_method_2_code
def yX11_vector : MethodName := ⟨RX11, "vector", "()I"⟩
abbrev cX11_append : ByteArray := prog_1_method_3_code
def yX11_append : MethodName := ⟨RX11, "append", "(II)I"⟩
abbrev cX11_set : ByteArray := prog_1_method_4_code
def yX11_set : MethodName := ⟨RX11, "set", "(III)I"⟩
abbrev cX11_cut : ByteArray := prog_1_method_5_code
def yX11_cut : MethodName := ⟨RX11, "cut", "(I)I"⟩
abbrev cX11_depth : ByteArray := prog_1_method_6_code
def yX11_depth : MethodName := ⟨RX11, "depth", "(I)I"⟩
abbrev cX11_open : ByteArray := prog_1_method_7_code
def yX11_open : MethodName := ⟨RX11, "open", "(I)I"⟩
abbrev cX11_appendTo : ByteArray := prog_1_method_8_code
def yX11_appendTo : MethodName := ⟨RX11, "appendTo", "(II)I"⟩
abbrev cX11_setIn : ByteArray := prog_1_method_9_code
def yX11_setIn : MethodName := ⟨RX11, "setIn", "(III)I"⟩
abbrev cX11_makeLasting : ByteArray := prog_1_method_10_code
def yX11_makeLasting : MethodName := ⟨RX11, "makeLasting", "(I)I"⟩
abbrev cX11_isOpen : ByteArray := prog_1_method_11_code
def yX11_isOpen : MethodName := ⟨RX11, "isOpen", "(I)Z"⟩
abbrev cX11_map : ByteArray := prog_1_method_12_code
def yX11_map : MethodName := ⟨RX11, "map", "()I"⟩
abbrev cX11_put : ByteArray := prog_1_method_13_code
def yX11_put : MethodName := ⟨RX11, "put", "(III)I"⟩
abbrev cX11_without : ByteArray := prog_1_method_14_code
def yX11_without : MethodName := ⟨RX11, "without", "(II)I"⟩
abbrev cX11_get : ByteArray := prog_1_method_15_code
def yX11_get : MethodName := ⟨RX11, "get", "(II)I"⟩
abbrev cX11_getPlain : ByteArray := prog_1_method_16_code
def yX11_getPlain : MethodName := ⟨RX11, "getPlain", "(II)I"⟩
abbrev cX11_levelOf : ByteArray := prog_1_method_17_code
def yX11_levelOf : MethodName := ⟨RX11, "levelOf", "(II)I"⟩
abbrev cX11_size : ByteArray := prog_1_method_18_code
def yX11_size : MethodName := ⟨RX11, "size", "(I)I"⟩
abbrev cX11_nodes : ByteArray := prog_1_method_19_code
def yX11_nodes : MethodName := ⟨RX11, "nodes", "(I)I"⟩
abbrev cX11_shared : ByteArray := prog_1_method_20_code
def yX11_shared : MethodName := ⟨RX11, "shared", "(II)I"⟩
abbrev cX11_areSame : ByteArray := prog_1_method_21_code
def yX11_areSame : MethodName := ⟨RX11, "areSame", "(II)Z"⟩
abbrev cX11_made : ByteArray := prog_1_method_22_code
def yX11_made : MethodName := ⟨RX11, "made", "()J"⟩
abbrev cX11_range : ByteArray := prog_1_method_23_code
def yX11_range : MethodName := ⟨RX11, "range", "(III)I"⟩
abbrev cX11_over : ByteArray := prog_1_method_24_code
def yX11_over : MethodName := ⟨RX11, "over", "(ICI)I"⟩
abbrev cX11_at : ByteArray := prog_1_method_25_code
def yX11_at : MethodName := ⟨RX11, "at", "(II)I"⟩
abbrev cX11_all : ByteArray := prog_1_method_26_code
def yX11_all : MethodName := ⟨RX11, "all", "(I)I"⟩
abbrev cX11_realised : ByteArray := prog_1_method_27_code
def yX11_realised : MethodName := ⟨RX11, "realised", "(I)I"⟩
abbrev cX11_chunks : ByteArray := prog_1_method_28_code
def yX11_chunks : MethodName := ⟨RX11, "chunks", "(I)I"⟩
abbrev cX11_collect : ByteArray := prog_1_method_29_code
def yX11_collect : MethodName := ⟨RX11, "collect", "(I)I"⟩
abbrev cX11_addReference : ByteArray := prog_1_method_30_code
def yX11_addReference : MethodName := ⟨RX11, "addReference", "(III)I"⟩
abbrev cX11_begin : ByteArray := prog_1_method_31_code
def yX11_begin : MethodName := ⟨RX11, "begin", "(I)I"⟩
abbrev cX11_read : ByteArray := prog_1_method_32_code
def yX11_read : MethodName := ⟨RX11, "read", "(II)I"⟩
abbrev cX11_write : ByteArray := prog_1_method_33_code
def yX11_write : MethodName := ⟨RX11, "write", "(III)Z"⟩
abbrev cX11_ensure : ByteArray := prog_1_method_34_code
def yX11_ensure : MethodName := ⟨RX11, "ensure", "(II)Z"⟩
abbrev cX11_add : ByteArray := prog_1_method_35_code
def yX11_add : MethodName := ⟨RX11, "add", "(III)Z"⟩
abbrev cX11_commit : ByteArray := prog_1_method_36_code
def yX11_commit : MethodName := ⟨RX11, "commit", "(I)C"⟩
abbrev cX11_end : ByteArray := prog_1_method_37_code
def yX11_end : MethodName := ⟨RX11, "end", "(I)I"⟩
abbrev cX11_sentBack : ByteArray := prog_1_method_38_code
def yX11_sentBack : MethodName := ⟨RX11, "sentBack", "(I)I"⟩
abbrev cX11_valueOf : ByteArray := prog_1_method_39_code
def yX11_valueOf : MethodName := ⟨RX11, "valueOf", "(I)I"⟩
abbrev cX11_valueByLog : ByteArray := prog_1_method_40_code
def yX11_valueByLog : MethodName := ⟨RX11, "valueByLog", "(I)I"⟩
abbrev cX11_history : ByteArray := prog_1_method_41_code
def yX11_history : MethodName := ⟨RX11, "history", "(I)I"⟩
abbrev cX11_moment : ByteArray := prog_1_method_42_code
def yX11_moment : MethodName := ⟨RX11, "moment", "()I"⟩
abbrev cX11_logged : ByteArray := prog_1_method_43_code
def yX11_logged : MethodName := ⟨RX11, "logged", "()I"⟩
abbrev cX11_logAt : ByteArray := prog_1_method_44_code
def yX11_logAt : MethodName := ⟨RX11, "logAt", "(II)I"⟩
abbrev cX11_addAgent : ByteArray := prog_1_method_45_code
def yX11_addAgent : MethodName := ⟨RX11, "addAgent", "(IIIC)I"⟩
abbrev cX11_send : ByteArray := prog_1_method_46_code
def yX11_send : MethodName := ⟨RX11, "send", "(III)I"⟩
abbrev cX11_act : ByteArray := prog_1_method_47_code
def yX11_act : MethodName := ⟨RX11, "act", "(I)I"⟩
abbrev cX11_beginAnew : ByteArray := prog_1_method_48_code
def yX11_beginAnew : MethodName := ⟨RX11, "beginAnew", "(II)I"⟩
abbrev cX11_errors : ByteArray := prog_1_method_49_code
def yX11_errors : MethodName := ⟨RX11, "errors", "(I)I"⟩
abbrev cX11_sharing : ByteArray := prog_1_method_50_code
def yX11_sharing : MethodName := ⟨RX11, "sharing", "()F"⟩
abbrev cX11_valueNumbered : ByteArray := prog_1_method_51_code
def yX11_valueNumbered : MethodName := ⟨RX11, "valueNumbered", "(I)LPersistentParlour$Value;"⟩
abbrev cX11_refuseMoreValues : ByteArray := prog_1_method_52_code
def yX11_refuseMoreValues : MethodName := ⟨RX11, "refuseMoreValues", "()V"⟩
abbrev cX11_refuseElement : ByteArray := prog_1_method_53_code
def yX11_refuseElement : MethodName := ⟨RX11, "refuseElement", "(I)V"⟩
abbrev cX11_refuseUnless : ByteArray := prog_1_method_54_code
def yX11_refuseUnless : MethodName := ⟨RX11, "refuseUnless", "(LPersistentParlour$Value;I)V"⟩
abbrev cX11_refuseFull : ByteArray := prog_1_method_55_code
def yX11_refuseFull : MethodName := ⟨RX11, "refuseFull", "(LPersistentParlour$Value;)V"⟩
abbrev cX11_refusePlace : ByteArray := prog_1_method_56_code
def yX11_refusePlace : MethodName := ⟨RX11, "refusePlace", "(LPersistentParlour$Value;I)V"⟩
abbrev cX11_isWithin : ByteArray := prog_1_method_57_code
def yX11_isWithin : MethodName := ⟨RX11, "isWithin", "(III)Z"⟩
abbrev cX11_keep : ByteArray := prog_1_method_58_code
def yX11_keep : MethodName := ⟨RX11, "keep", "(LPersistentParlour$Value;)I"⟩
abbrev cX11_keepVector : ByteArray := prog_1_method_59_code
def yX11_keepVector : MethodName := ⟨RX11, "keepVector", "(LPersistentParlour$Node;I[I)I"⟩
abbrev cX11_keepMap : ByteArray := prog_1_method_60_code
def yX11_keepMap : MethodName := ⟨RX11, "keepMap", "(LPersistentParlour$Node;I[I[I)I"⟩
abbrev cX11_rowWithout : ByteArray := prog_1_method_61_code
def yX11_rowWithout : MethodName := ⟨RX11, "rowWithout", "([II)[I"⟩
abbrev cX11_sameElements : ByteArray := prog_1_method_62_code
def yX11_sameElements : MethodName := ⟨RX11, "sameElements", "(LPersistentParlour$Value;LPersistentParlour$Value;)Z"⟩
abbrev cX11_samePairs : ByteArray := prog_1_method_63_code
def yX11_samePairs : MethodName := ⟨RX11, "samePairs", "(LPersistentParlour$Value;LPersistentParlour$Value;)Z"⟩
abbrev cX11_countNodes : ByteArray := prog_1_method_64_code
def yX11_countNodes : MethodName := ⟨RX11, "countNodes", "(LPersistentParlour$Node;I)I"⟩
abbrev cX11_markNodes : ByteArray := prog_1_method_65_code
def yX11_markNodes : MethodName := ⟨RX11, "markNodes", "(LPersistentParlour$Node;II)I"⟩
abbrev cX11_sequenceNumbered : ByteArray := prog_1_method_66_code
def yX11_sequenceNumbered : MethodName := ⟨RX11, "sequenceNumbered", "(I)LPersistentParlour$Sequence;"⟩
abbrev cX11_refuseMoreSequences : ByteArray := prog_1_method_67_code
def yX11_refuseMoreSequences : MethodName := ⟨RX11, "refuseMoreSequences", "()V"⟩
abbrev cX11_refuseBroken : ByteArray := prog_1_method_68_code
def yX11_refuseBroken : MethodName := ⟨RX11, "refuseBroken", "(LPersistentParlour$Sequence;)V"⟩
abbrev cX11_keepSequence : ByteArray := prog_1_method_69_code
def yX11_keepSequence : MethodName := ⟨RX11, "keepSequence", "(LPersistentParlour$Sequence;)I"⟩
abbrev cX11_realise : ByteArray := prog_1_method_70_code
def yX11_realise : MethodName := ⟨RX11, "realise", "(LPersistentParlour$Sequence;IZ)V"⟩
abbrev cX11_refuseBounds : ByteArray := prog_1_method_71_code
def yX11_refuseBounds : MethodName := ⟨RX11, "refuseBounds", "(III)V"⟩
abbrev cX11_referenceNumbered : ByteArray := prog_1_method_72_code
def yX11_referenceNumbered : MethodName := ⟨RX11, "referenceNumbered", "(I)LPersistentParlour$Reference;"⟩
abbrev cX11_transactionNumbered : ByteArray := prog_1_method_73_code
def yX11_transactionNumbered : MethodName := ⟨RX11, "transactionNumbered", "(I)LPersistentParlour$Transaction;"⟩
abbrev cX11_agentNumbered : ByteArray := prog_1_method_74_code
def yX11_agentNumbered : MethodName := ⟨RX11, "agentNumbered", "(I)LPersistentParlour$Agent;"⟩
abbrev cX11_refuseEnded : ByteArray := prog_1_method_75_code
def yX11_refuseEnded : MethodName := ⟨RX11, "refuseEnded", "(LPersistentParlour$Transaction;)V"⟩
abbrev cX11_holdsPoint : ByteArray := prog_1_method_76_code
def yX11_holdsPoint : MethodName := ⟨RX11, "holdsPoint", "(LPersistentParlour$Transaction;LPersistentParlour$Reference;)Z"⟩
abbrev cX11_winsAgainstOthers : ByteArray := prog_1_method_77_code
def yX11_winsAgainstOthers : MethodName := ⟨RX11, "winsAgainstOthers", "(LPersistentParlour$Transaction;IZ)Z"⟩
abbrev cX11_valueToCommit : ByteArray := prog_1_method_78_code
def yX11_valueToCommit : MethodName := ⟨RX11, "valueToCommit", "(LPersistentParlour$Transaction;I)I"⟩
abbrev cX11_staysWithinBounds : ByteArray := prog_1_method_79_code
def yX11_staysWithinBounds : MethodName := ⟨RX11, "staysWithinBounds", "(LPersistentParlour$Transaction;)Z"⟩
abbrev cX11_changesAny : ByteArray := prog_1_method_80_code
def yX11_changesAny : MethodName := ⟨RX11, "changesAny", "(LPersistentParlour$Transaction;)Z"⟩
abbrev cX11_recordChanges : ByteArray := prog_1_method_81_code
def yX11_recordChanges : MethodName := ⟨RX11, "recordChanges", "(LPersistentParlour$Transaction;)V"⟩
abbrev cX11_deliver : ByteArray := prog_1_method_82_code
def yX11_deliver : MethodName := ⟨RX11, "deliver", "(LPersistentParlour$Transaction;)V"⟩
def RX12 : String := "PersistentParlourModel$Agent"
def TX12 : u_T := fun k => match k with
  | 0 => ("PersistentParlourModel$Agent", "value", "I", false)
  | 1 => ("PersistentParlourModel$Agent", "least", "I", true)
  | 2 => ("PersistentParlourModel$Agent", "greatest", "I", true)
  | 3 => ("PersistentParlourModel$Agent", "mode", "C", true)
  | 4 => ("PersistentParlourModel$Agent", "hasFailed", "Z", false)
  | 5 => ("PersistentParlourModel$Agent", "errors", "I", false)
  | _ => ("PersistentParlourModel$Agent", "row", "Ljava/util/ArrayList;", true)
def tyX12 : Nat → FieldType := fun k => match k with
  | 0 => .int
  | 1 => .int
  | 2 => .int
  | 3 => .char
  | 4 => .boolean
  | 5 => .int
  | _ => .object "java/util/ArrayList"
theorem nmX12 : ∀ a, a < 7 → ∀ b, b < 7 → a ≠ b → (TX12 a).2.1 ≠ (TX12 b).2.1 := by decide +kernel
theorem tyX12_ok : ∀ k, k < 7 → parseFieldDescriptor (TX12 k).2.2.1 = some (tyX12 k) := by decide +kernel
abbrev cX12_init : ByteArray := prog_15_method_1_code
def yX12_init : MethodName := ⟨RX12, "<init>", "(IIIC)V"⟩
abbrev cX12_take : ByteArray := prog_15_method_2_code
def yX12_take : MethodName := ⟨RX12, "take", "(I)V"⟩
def RX13 : String := "PersistentParlourModel$Reference"
def TX13 : u_T := fun k => match k with
  | 0 => ("PersistentParlourModel$Reference", "least", "I", true)
  | 1 => ("PersistentParlourModel$Reference", "greatest", "I", true)
  | 2 => ("PersistentParlourModel$Reference", "limit", "I", false)
  | 3 => ("PersistentParlourModel$Reference", "history", "Ljava/util/ArrayList;", true)
  | _ => ("PersistentParlourModel$Reference", "first", "I", true)
def tyX13 : Nat → FieldType := fun k => match k with
  | 0 => .int
  | 1 => .int
  | 2 => .int
  | 3 => .object "java/util/ArrayList"
  | _ => .int
theorem nmX13 : ∀ a, a < 5 → ∀ b, b < 5 → a ≠ b → (TX13 a).2.1 ≠ (TX13 b).2.1 := by decide +kernel
theorem tyX13_ok : ∀ k, k < 5 → parseFieldDescriptor (TX13 k).2.2.1 = some (tyX13 k) := by decide +kernel
abbrev cX13_init : ByteArray := prog_16_method_1_code
def yX13_init : MethodName := ⟨RX13, "<init>", "(III)V"⟩
abbrev cX13_last : ByteArray := prog_16_method_2_code
def yX13_last : MethodName := ⟨RX13, "last", "()[I"⟩
abbrev cX13_come : ByteArray := prog_16_method_3_code
def yX13_come : MethodName := ⟨RX13, "come", "(II)V"⟩
def RX14 : String := "PersistentParlourModel$Sequence"
def TX14 : u_T := fun k => match k with
  | 0 => ("PersistentParlourModel$Sequence", "way", "C", true)
  | 1 => ("PersistentParlourModel$Sequence", "source", "I", true)
  | 2 => ("PersistentParlourModel$Sequence", "number", "I", true)
  | 3 => ("PersistentParlourModel$Sequence", "step", "I", true)
  | 4 => ("PersistentParlourModel$Sequence", "many", "I", true)
  | _ => ("PersistentParlourModel$Sequence", "chunks", "Ljava/util/ArrayList;", true)
def tyX14 : Nat → FieldType := fun k => match k with
  | 0 => .char
  | 1 => .int
  | 2 => .int
  | 3 => .int
  | 4 => .int
  | _ => .object "java/util/ArrayList"
theorem nmX14 : ∀ a, a < 6 → ∀ b, b < 6 → a ≠ b → (TX14 a).2.1 ≠ (TX14 b).2.1 := by decide +kernel
theorem tyX14_ok : ∀ k, k < 6 → parseFieldDescriptor (TX14 k).2.2.1 = some (tyX14 k) := by decide +kernel
abbrev cX14_init : ByteArray := prog_17_method_1_code
def yX14_init : MethodName := ⟨RX14, "<init>", "(CIIII)V"⟩
abbrev cX14_elements : ByteArray := prog_17_method_2_code
def yX14_elements : MethodName := ⟨RX14, "elements", "()I"⟩
abbrev cX14_at : ByteArray := prog_17_method_3_code
def yX14_at : MethodName := ⟨RX14, "at", "(I)I"⟩
def RX15 : String := "PersistentParlourModel$Transaction"
def TX15 : u_T := fun k => match k with
  | 0 => ("PersistentParlourModel$Transaction", "isOpen", "Z", false)
  | 1 => ("PersistentParlourModel$Transaction", "point", "I", false)
  | 2 => ("PersistentParlourModel$Transaction", "age", "I", false)
  | 3 => ("PersistentParlourModel$Transaction", "sentBack", "I", false)
  | 4 => ("PersistentParlourModel$Transaction", "wrote", "[Z", true)
  | 5 => ("PersistentParlourModel$Transaction", "written", "[I", true)
  | 6 => ("PersistentParlourModel$Transaction", "ensured", "[Z", true)
  | 7 => ("PersistentParlourModel$Transaction", "adds", "[Z", true)
  | 8 => ("PersistentParlourModel$Transaction", "added", "[I", true)
  | _ => ("PersistentParlourModel$Transaction", "sent", "Ljava/util/ArrayList;", true)
def tyX15 : Nat → FieldType := fun k => match k with
  | 0 => .boolean
  | 1 => .int
  | 2 => .int
  | 3 => .int
  | 4 => .array .boolean
  | 5 => .array .int
  | 6 => .array .boolean
  | 7 => .array .boolean
  | 8 => .array .int
  | _ => .object "java/util/ArrayList"
theorem nmX15 : ∀ a, a < 10 → ∀ b, b < 10 → a ≠ b → (TX15 a).2.1 ≠ (TX15 b).2.1 := by decide +kernel
theorem tyX15_ok : ∀ k, k < 10 → parseFieldDescriptor (TX15 k).2.2.1 = some (tyX15 k) := by decide +kernel
abbrev cX15_init : ByteArray := prog_18_method_1_code
def yX15_init : MethodName := ⟨RX15, "<init>", "()V"⟩
abbrev cX15_forget : ByteArray := prog_18_method_2_code
def yX15_forget : MethodName := ⟨RX15, "forget", "()V"⟩
def RX16 : String := "PersistentParlourModel"
def TX16 : u_T := fun k => match k with
  | 0 => ("PersistentParlourModel", "thrown", "I", false)
  | 1 => ("PersistentParlourModel", "values", "I", false)
  | 2 => ("PersistentParlourModel", "made", "I", false)
  | 3 => ("PersistentParlourModel", "type", "[C", true)
  | 4 => ("PersistentParlourModel", "size", "[I", true)
  | 5 => ("PersistentParlourModel", "element", "[I", true)
  | 6 => ("PersistentParlourModel", "node", "[I", true)
  | 7 => ("PersistentParlourModel", "isOwn", "[Z", true)
  | 8 => ("PersistentParlourModel", "hasKey", "[Z", true)
  | 9 => ("PersistentParlourModel", "ofKey", "[I", true)
  | 10 => ("PersistentParlourModel", "mapNode", "[I", true)
  | 11 => ("PersistentParlourModel", "sequences", "Ljava/util/ArrayList;", true)
  | 12 => ("PersistentParlourModel", "kept", "[I", true)
  | 13 => ("PersistentParlourModel", "references", "Ljava/util/ArrayList;", true)
  | 14 => ("PersistentParlourModel", "log", "Ljava/util/ArrayList;", true)
  | 15 => ("PersistentParlourModel", "moment", "I", false)
  | 16 => ("PersistentParlourModel", "begun", "I", false)
  | 17 => ("PersistentParlourModel", "transactions", "[LPersistentParlourModel$Transaction;", true)
  | _ => ("PersistentParlourModel", "agents", "Ljava/util/ArrayList;", true)
def tyX16 : Nat → FieldType := fun k => match k with
  | 0 => .int
  | 1 => .int
  | 2 => .int
  | 3 => .array .char
  | 4 => .array .int
  | 5 => .array .int
  | 6 => .array .int
  | 7 => .array .boolean
  | 8 => .array .boolean
  | 9 => .array .int
  | 10 => .array .int
  | 11 => .object "java/util/ArrayList"
  | 12 => .array .int
  | 13 => .object "java/util/ArrayList"
  | 14 => .object "java/util/ArrayList"
  | 15 => .int
  | 16 => .int
  | 17 => .array (.object "PersistentParlourModel$Transaction")
  | _ => .object "java/util/ArrayList"
theorem nmX16 : ∀ a, a < 19 → ∀ b, b < 19 → a ≠ b → (TX16 a).2.1 ≠ (TX16 b).2.1 := by decide +kernel
theorem tyX16_ok : ∀ k, k < 19 → parseFieldDescriptor (TX16 k).2.2.1 = some (tyX16 k) := by decide +kernel
abbrev cX16_init : ByteArray := prog_14_method_1_code
def yX16_init : MethodName := ⟨RX16, "<init>", "()V"⟩
abbrev cX16_thrown : ByteArray := prog_14_method_2_code
def yX16_thrown : MethodName := ⟨RX16, "thrown", "()I"⟩
abbrev cX16_in : ByteArray := prog_14_method_3_code
def yX16_in : MethodName := ⟨RX16, "in", "(III)Z"⟩
abbrev cX16_fails : ByteArray := prog_14_method_4_code
def yX16_fails : MethodName := ⟨RX16, "fails", "(ZI)Z"⟩
abbrev cX16_noValue : ByteArray := prog_14_method_5_code
def yX16_noValue : MethodName := ⟨RX16, "noValue", "(I)Z"⟩
abbrev cX16_isFull : ByteArray := prog_14_method_6_code
def yX16_isFull : MethodName := ⟨RX16, "isFull", "()Z"⟩
abbrev cX16_noElement : ByteArray := prog_14_method_7_code
def yX16_noElement : MethodName := ⟨RX16, "noElement", "(I)Z"⟩
abbrev cX16_depthOf : ByteArray := prog_14_method_8_code
def yX16_depthOf : MethodName := ⟨RX16, "depthOf", "(I)I"⟩
abbrev cX16_width : ByteArray := prog_14_method_9_code
def yX16_width : MethodName := ⟨RX16, "width", "(I)I"⟩
abbrev cX16_from : ByteArray := prog_14_method_10_code
def yX16_from : MethodName := ⟨RX16, "from", "(I)I"⟩
abbrev cX16_isThere : ByteArray := prog_14_method_11_code
def yX16_isThere : MethodName := ⟨RX16, "isThere", "(II)Z"⟩
abbrev cX16_isSameBelow : ByteArray := prog_14_method_12_code
def yX16_isSameBelow : MethodName := ⟨RX16, "isSameBelow", "(III)Z"⟩
abbrev cX16_newNode : ByteArray := prog_14_method_13_code
def yX16_newNode : MethodName := ⟨RX16, "newNode", "()I"⟩
abbrev cX16_nodesFrom : ByteArray := prog_14_method_14_code
def yX16_nodesFrom : MethodName := ⟨RX16, "nodesFrom", "(II)V"⟩
abbrev cX16_newValue : ByteArray := prog_14_method_15_code
def yX16_newValue : MethodName := ⟨RX16, "newValue", "(C)I"⟩
abbrev cX16_copyElements : ByteArray := prog_14_method_16_code
def yX16_copyElements : MethodName := ⟨RX16, "copyElements", "(II)V"⟩
abbrev cX16_vector : ByteArray := prog_14_method_17_code
def yX16_vector : MethodName := ⟨RX16, "vector", "()I"⟩
abbrev cX16_append : ByteArray := prog_14_method_18_code
def yX16_append : MethodName := ⟨RX16, "append", "(II)I"⟩
abbrev cX16_set : ByteArray := prog_14_method_19_code
def yX16_set : MethodName := ⟨RX16, "set", "(III)I"⟩
abbrev cX16_cut : ByteArray := prog_14_method_20_code
def yX16_cut : MethodName := ⟨RX16, "cut", "(I)I"⟩
abbrev cX16_isVector : ByteArray := prog_14_method_21_code
def yX16_isVector : MethodName := ⟨RX16, "isVector", "(I)Z"⟩
abbrev cX16_depth : ByteArray := prog_14_method_22_code
def yX16_depth : MethodName := ⟨RX16, "depth", "(I)I"⟩
abbrev cX16_open : ByteArray := prog_14_method_23_code
def yX16_open : MethodName := ⟨RX16, "open", "(I)I"⟩
abbrev cX16_change : ByteArray := prog_14_method_24_code
def yX16_change : MethodName := ⟨RX16, "change", "(III)I"⟩
abbrev cX16_appendTo : ByteArray := prog_14_method_25_code
def yX16_appendTo : MethodName := ⟨RX16, "appendTo", "(II)I"⟩
abbrev cX16_setIn : ByteArray := prog_14_method_26_code
def yX16_setIn : MethodName := ⟨RX16, "setIn", "(III)I"⟩
abbrev cX16_makeLasting : ByteArray := prog_14_method_27_code
def yX16_makeLasting : MethodName := ⟨RX16, "makeLasting", "(I)I"⟩
abbrev cX16_isOpen : ByteArray := prog_14_method_28_code
def yX16_isOpen : MethodName := ⟨RX16, "isOpen", "(I)Z"⟩
abbrev cX16_codeOf : ByteArray := prog_14_method_29_code
def yX16_codeOf : MethodName := ⟨RX16, "codeOf", "(I)I"⟩
abbrev cX16_levelStart : ByteArray := prog_14_method_30_code
def yX16_levelStart : MethodName := ⟨RX16, "levelStart", "(I)I"⟩
abbrev cX16_bitsOf : ByteArray := prog_14_method_31_code
def yX16_bitsOf : MethodName := ⟨RX16, "bitsOf", "(II)I"⟩
abbrev cX16_slotOf : ByteArray := prog_14_method_32_code
def yX16_slotOf : MethodName := ⟨RX16, "slotOf", "(II)I"⟩
abbrev cX16_alike : ByteArray := prog_14_method_33_code
def yX16_alike : MethodName := ⟨RX16, "alike", "(III)I"⟩
abbrev cX16_newMap : ByteArray := prog_14_method_34_code
def yX16_newMap : MethodName := ⟨RX16, "newMap", "(I)I"⟩
abbrev cX16_map : ByteArray := prog_14_method_35_code
def yX16_map : MethodName := ⟨RX16, "map", "()I"⟩
abbrev cX16_changeNodes : ByteArray := prog_14_method_36_code
def yX16_changeNodes : MethodName := ⟨RX16, "changeNodes", "(II)V"⟩
abbrev cX16_put : ByteArray := prog_14_method_37_code
def yX16_put : MethodName := ⟨RX16, "put", "(III)I"⟩
abbrev cX16_without : ByteArray := prog_14_method_38_code
def yX16_without : MethodName := ⟨RX16, "without", "(II)I"⟩
abbrev cX16_hasAt : ByteArray := prog_14_method_39_code
def yX16_hasAt : MethodName := ⟨RX16, "hasAt", "(II)Z"⟩
abbrev cX16_get : ByteArray := prog_14_method_40_code
def yX16_get : MethodName := ⟨RX16, "get", "(II)I"⟩
abbrev cX16_getPlain : ByteArray := prog_14_method_41_code
def yX16_getPlain : MethodName := ⟨RX16, "getPlain", "(II)I"⟩
abbrev cX16_levelOf : ByteArray := prog_14_method_42_code
def yX16_levelOf : MethodName := ⟨RX16, "levelOf", "(II)I"⟩
abbrev cX16_size : ByteArray := prog_14_method_43_code
def yX16_size : MethodName := ⟨RX16, "size", "(I)I"⟩
abbrev cX16_slots : ByteArray := prog_14_method_44_code
def yX16_slots : MethodName := ⟨RX16, "slots", "(I)I"⟩
abbrev cX16_nodeAt : ByteArray := prog_14_method_45_code
def yX16_nodeAt : MethodName := ⟨RX16, "nodeAt", "(II)I"⟩
abbrev cX16_nodesOf : ByteArray := prog_14_method_46_code
def yX16_nodesOf : MethodName := ⟨RX16, "nodesOf", "(I)I"⟩
abbrev cX16_nodes : ByteArray := prog_14_method_47_code
def yX16_nodes : MethodName := ⟨RX16, "nodes", "(I)I"⟩
abbrev cX16_shared : ByteArray := prog_14_method_48_code
def yX16_shared : MethodName := ⟨RX16, "shared", "(II)I"⟩
abbrev cX16_areSame : ByteArray := prog_14_method_49_code
def yX16_areSame : MethodName := ⟨RX16, "areSame", "(II)Z"⟩
abbrev cX16_made : ByteArray := prog_14_method_50_code
def yX16_made : MethodName := ⟨RX16, "made", "()J"⟩
abbrev cX16_sharing : ByteArray := prog_14_method_51_code
def yX16_sharing : MethodName := ⟨RX16, "sharing", "()F"⟩
abbrev cX16_range : ByteArray := prog_14_method_52_code
def yX16_range : MethodName := ⟨RX16, "range", "(III)I"⟩
abbrev cX16_noSequence : ByteArray := prog_14_method_53_code
def yX16_noSequence : MethodName := ⟨RX16, "noSequence", "(I)Z"⟩
abbrev cX16_over : ByteArray := prog_14_method_54_code
def yX16_over : MethodName := ⟨RX16, "over", "(ICI)I"⟩
abbrev cX16_realise : ByteArray := prog_14_method_55_code
def yX16_realise : MethodName := ⟨RX16, "realise", "(LPersistentParlourModel$Sequence;)I"⟩
abbrev cX16_realiseOne : ByteArray := prog_14_method_56_code
def yX16_realiseOne : MethodName := ⟨RX16, "realiseOne", "(LPersistentParlourModel$Sequence;LPersistentParlourModel$Sequence;I)I"⟩
abbrev cX16_realiseLike : ByteArray := prog_14_method_57_code
def yX16_realiseLike : MethodName := ⟨RX16, "realiseLike", "(LPersistentParlourModel$Sequence;LPersistentParlourModel$Sequence;I)I"⟩
abbrev cX16_keep : ByteArray := prog_14_method_58_code
def yX16_keep : MethodName := ⟨RX16, "keep", "()V"⟩
abbrev cX16_takeBack : ByteArray := prog_14_method_59_code
def yX16_takeBack : MethodName := ⟨RX16, "takeBack", "()V"⟩
abbrev cX16_realiseTo : ByteArray := prog_14_method_60_code
def yX16_realiseTo : MethodName := ⟨RX16, "realiseTo", "(LPersistentParlourModel$Sequence;I)I"⟩
abbrev cX16_at : ByteArray := prog_14_method_61_code
def yX16_at : MethodName := ⟨RX16, "at", "(II)I"⟩
abbrev cX16_all : ByteArray := prog_14_method_62_code
def yX16_all : MethodName := ⟨RX16, "all", "(I)I"⟩
abbrev cX16_realised : ByteArray := prog_14_method_63_code
def yX16_realised : MethodName := ⟨RX16, "realised", "(I)I"⟩
abbrev cX16_chunks : ByteArray := prog_14_method_64_code
def yX16_chunks : MethodName := ⟨RX16, "chunks", "(I)I"⟩
abbrev cX16_collect : ByteArray := prog_14_method_65_code
def yX16_collect : MethodName := ⟨RX16, "collect", "(I)I"⟩
abbrev cX16_areBounds : ByteArray := prog_14_method_66_code
def yX16_areBounds : MethodName := ⟨RX16, "areBounds", "(III)Z"⟩
abbrev cX16_addReference : ByteArray := prog_14_method_67_code
def yX16_addReference : MethodName := ⟨RX16, "addReference", "(III)I"⟩
abbrev cX16_noTransaction : ByteArray := prog_14_method_68_code
def yX16_noTransaction : MethodName := ⟨RX16, "noTransaction", "(I)Z"⟩
abbrev cX16_noReference : ByteArray := prog_14_method_69_code
def yX16_noReference : MethodName := ⟨RX16, "noReference", "(I)Z"⟩
abbrev cX16_isClosed : ByteArray := prog_14_method_70_code
def yX16_isClosed : MethodName := ⟨RX16, "isClosed", "(I)Z"⟩
abbrev cX16_begin : ByteArray := prog_14_method_71_code
def yX16_begin : MethodName := ⟨RX16, "begin", "(I)I"⟩
abbrev cX16_sendBack : ByteArray := prog_14_method_72_code
def yX16_sendBack : MethodName := ⟨RX16, "sendBack", "(I)V"⟩
abbrev cX16_cannot : ByteArray := prog_14_method_73_code
def yX16_cannot : MethodName := ⟨RX16, "cannot", "(II)Z"⟩
abbrev cX16_read : ByteArray := prog_14_method_74_code
def yX16_read : MethodName := ⟨RX16, "read", "(II)I"⟩
abbrev cX16_goesOn : ByteArray := prog_14_method_75_code
def yX16_goesOn : MethodName := ⟨RX16, "goesOn", "(IIZ)Z"⟩
abbrev cX16_isLate : ByteArray := prog_14_method_76_code
def yX16_isLate : MethodName := ⟨RX16, "isLate", "(II)Z"⟩
abbrev cX16_write : ByteArray := prog_14_method_77_code
def yX16_write : MethodName := ⟨RX16, "write", "(III)Z"⟩
abbrev cX16_ensure : ByteArray := prog_14_method_78_code
def yX16_ensure : MethodName := ⟨RX16, "ensure", "(II)Z"⟩
abbrev cX16_add : ByteArray := prog_14_method_79_code
def yX16_add : MethodName := ⟨RX16, "add", "(III)Z"⟩
abbrev cX16_changes : ByteArray := prog_14_method_80_code
def yX16_changes : MethodName := ⟨RX16, "changes", "(LPersistentParlourModel$Transaction;I)Z"⟩
abbrev cX16_valueThen : ByteArray := prog_14_method_81_code
def yX16_valueThen : MethodName := ⟨RX16, "valueThen", "(LPersistentParlourModel$Transaction;I)I"⟩
abbrev cX16_commit : ByteArray := prog_14_method_82_code
def yX16_commit : MethodName := ⟨RX16, "commit", "(I)C"⟩
abbrev cX16_end : ByteArray := prog_14_method_83_code
def yX16_end : MethodName := ⟨RX16, "end", "(I)I"⟩
abbrev cX16_sentBack : ByteArray := prog_14_method_84_code
def yX16_sentBack : MethodName := ⟨RX16, "sentBack", "(I)I"⟩
abbrev cX16_valueOf : ByteArray := prog_14_method_85_code
def yX16_valueOf : MethodName := ⟨RX16, "valueOf", "(I)I"⟩
abbrev cX16_valueByLog : ByteArray := prog_14_method_86_code
def yX16_valueByLog : MethodName := ⟨RX16, "valueByLog", "(I)I"⟩
abbrev cX16_history : ByteArray := prog_14_method_87_code
def yX16_history : MethodName := ⟨RX16, "history", "(I)I"⟩
abbrev cX16_moment : ByteArray := prog_14_method_88_code
def yX16_moment : MethodName := ⟨RX16, "moment", "()I"⟩
abbrev cX16_logged : ByteArray := prog_14_method_89_code
def yX16_logged : MethodName := ⟨RX16, "logged", "()I"⟩
abbrev cX16_logAt : ByteArray := prog_14_method_90_code
def yX16_logAt : MethodName := ⟨RX16, "logAt", "(II)I"⟩
abbrev cX16_addAgent : ByteArray := prog_14_method_91_code
def yX16_addAgent : MethodName := ⟨RX16, "addAgent", "(IIIC)I"⟩
abbrev cX16_noAgent : ByteArray := prog_14_method_92_code
def yX16_noAgent : MethodName := ⟨RX16, "noAgent", "(I)Z"⟩
abbrev cX16_send : ByteArray := prog_14_method_93_code
def yX16_send : MethodName := ⟨RX16, "send", "(III)I"⟩
abbrev cX16_act : ByteArray := prog_14_method_94_code
def yX16_act : MethodName := ⟨RX16, "act", "(I)I"⟩
abbrev cX16_beginAnew : ByteArray := prog_14_method_95_code
def yX16_beginAnew : MethodName := ⟨RX16, "beginAnew", "(II)I"⟩
abbrev cX16_errors : ByteArray := prog_14_method_96_code
def yX16_errors : MethodName := ⟨RX16, "errors", "(I)I"⟩
def RJx145de : String := "java/io/Serializable"
def TJx145de : u_T := fun k => match k with
  | _ => ("", "", "", false)
def tyJx145de : Nat → FieldType := fun k => match k with
  | _ => .int
theorem nmJx145de : ∀ a, a < 0 → ∀ b, b < 0 → a ≠ b → (TJx145de a).2.1 ≠ (TJx145de b).2.1 := by decide +kernel
theorem tyJx145de_ok : ∀ k, k < 0 → parseFieldDescriptor (TJx145de k).2.2.1 = some (tyJx145de k) := by decide +kernel
def RJx8e188 : String := "java/lang/Cloneable"
def TJx8e188 : u_T := fun k => match k with
  | _ => ("", "", "", false)
def tyJx8e188 : Nat → FieldType := fun k => match k with
  | _ => .int
theorem nmJx8e188 : ∀ a, a < 0 → ∀ b, b < 0 → a ≠ b → (TJx8e188 a).2.1 ≠ (TJx8e188 b).2.1 := by decide +kernel
theorem tyJx8e188_ok : ∀ k, k < 0 → parseFieldDescriptor (TJx8e188 k).2.2.1 = some (tyJx8e188 k) := by decide +kernel
def RJxb160c : String := "java/lang/Comparable"
def TJxb160c : u_T := fun k => match k with
  | _ => ("", "", "", false)
def tyJxb160c : Nat → FieldType := fun k => match k with
  | _ => .int
theorem nmJxb160c : ∀ a, a < 0 → ∀ b, b < 0 → a ≠ b → (TJxb160c a).2.1 ≠ (TJxb160c b).2.1 := by decide +kernel
theorem tyJxb160c_ok : ∀ k, k < 0 → parseFieldDescriptor (TJxb160c k).2.2.1 = some (tyJxb160c k) := by decide +kernel
def RJxabbfe : String := "java/lang/Integer$IntegerCache"
def TJxabbfe : u_T := fun k => match k with
  | _ => ("", "", "", false)
def tyJxabbfe : Nat → FieldType := fun k => match k with
  | _ => .int
theorem nmJxabbfe : ∀ a, a < 0 → ∀ b, b < 0 → a ≠ b → (TJxabbfe a).2.1 ≠ (TJxabbfe b).2.1 := by decide +kernel
theorem tyJxabbfe_ok : ∀ k, k < 0 → parseFieldDescriptor (TJxabbfe k).2.2.1 = some (tyJxabbfe k) := by decide +kernel
def RJ6 : String := "java/lang/Integer"
def TJ6 : u_T := fun k => match k with
  | _ => ("java/lang/Integer", "value", "I", true)
def tyJ6 : Nat → FieldType := fun k => match k with
  | _ => .int
theorem nmJ6 : ∀ a, a < 1 → ∀ b, b < 1 → a ≠ b → (TJ6 a).2.1 ≠ (TJ6 b).2.1 := by decide +kernel
theorem tyJ6_ok : ∀ k, k < 1 → parseFieldDescriptor (TJ6 k).2.2.1 = some (tyJ6 k) := by decide +kernel
abbrev cJ6_valueOf_2dffe : ByteArray := prog_26_method_22_code
def yJ6_valueOf_2dffe : MethodName := ⟨RJ6, "valueOf", "(I)Ljava/lang/Integer;"⟩
abbrev cJ6_init_d00df : ByteArray := prog_26_method_23_code
def yJ6_init_d00df : MethodName := ⟨RJ6, "<init>", "(I)V"⟩
abbrev cJ6_intValue_8abf5 : ByteArray := prog_26_method_27_code
def yJ6_intValue_8abf5 : MethodName := ⟨RJ6, "intValue", "()I"⟩
def RJxab1ab : String := "java/lang/Iterable"
def TJxab1ab : u_T := fun k => match k with
  | _ => ("", "", "", false)
def tyJxab1ab : Nat → FieldType := fun k => match k with
  | _ => .int
theorem nmJxab1ab : ∀ a, a < 0 → ∀ b, b < 0 → a ≠ b → (TJxab1ab a).2.1 ≠ (TJxab1ab b).2.1 := by decide +kernel
theorem tyJxab1ab_ok : ∀ k, k < 0 → parseFieldDescriptor (TJxab1ab k).2.2.1 = some (tyJxab1ab k) := by decide +kernel
def RJ9 : String := "java/lang/Math"
def TJ9 : u_T := fun k => match k with
  | _ => ("", "", "", false)
def tyJ9 : Nat → FieldType := fun k => match k with
  | _ => .int
theorem nmJ9 : ∀ a, a < 0 → ∀ b, b < 0 → a ≠ b → (TJ9 a).2.1 ≠ (TJ9 b).2.1 := by decide +kernel
theorem tyJ9_ok : ∀ k, k < 0 → parseFieldDescriptor (TJ9 k).2.2.1 = some (tyJ9 k) := by decide +kernel
abbrev cJ9_max_7cf53 : ByteArray := prog_29_method_65_code
def yJ9_max_7cf53 : MethodName := ⟨RJ9, "max", "(II)I"⟩
abbrev cJ9_min_7cf53 : ByteArray := prog_29_method_69_code
def yJ9_min_7cf53 : MethodName := ⟨RJ9, "min", "(II)I"⟩
def RJxd2413 : String := "java/lang/Number"
def TJxd2413 : u_T := fun k => match k with
  | _ => ("", "", "", false)
def tyJxd2413 : Nat → FieldType := fun k => match k with
  | _ => .int
theorem nmJxd2413 : ∀ a, a < 0 → ∀ b, b < 0 → a ≠ b → (TJxd2413 a).2.1 ≠ (TJxd2413 b).2.1 := by decide +kernel
theorem tyJxd2413_ok : ∀ k, k < 0 → parseFieldDescriptor (TJxd2413 k).2.2.1 = some (tyJxd2413 k) := by decide +kernel
abbrev cJxd2413_init_da8c8 : ByteArray := prog_30_method_1_code
def yJxd2413_init_da8c8 : MethodName := ⟨RJxd2413, "<init>", "()V"⟩
def RJ0 : String := "java/lang/String"
def TJ0 : u_T := fun k => match k with
  | _ => ("", "", "", false)
def tyJ0 : Nat → FieldType := fun k => match k with
  | _ => .int
theorem nmJ0 : ∀ a, a < 0 → ∀ b, b < 0 → a ≠ b → (TJ0 a).2.1 ≠ (TJ0 b).2.1 := by decide +kernel
theorem tyJ0_ok : ∀ k, k < 0 → parseFieldDescriptor (TJ0 k).2.2.1 = some (tyJ0 k) := by decide +kernel
def RJ10 : String := "java/lang/System"
def TJ10 : u_T := fun k => match k with
  | _ => ("", "", "", false)
def tyJ10 : Nat → FieldType := fun k => match k with
  | _ => .int
theorem nmJ10 : ∀ a, a < 0 → ∀ b, b < 0 → a ≠ b → (TJ10 a).2.1 ≠ (TJ10 b).2.1 := by decide +kernel
theorem tyJ10_ok : ∀ k, k < 0 → parseFieldDescriptor (TJ10 k).2.2.1 = some (tyJ10 k) := by decide +kernel
def RJxfd54e : String := "java/lang/constant/Constable"
def TJxfd54e : u_T := fun k => match k with
  | _ => ("", "", "", false)
def tyJxfd54e : Nat → FieldType := fun k => match k with
  | _ => .int
theorem nmJxfd54e : ∀ a, a < 0 → ∀ b, b < 0 → a ≠ b → (TJxfd54e a).2.1 ≠ (TJxfd54e b).2.1 := by decide +kernel
theorem tyJxfd54e_ok : ∀ k, k < 0 → parseFieldDescriptor (TJxfd54e k).2.2.1 = some (tyJxfd54e k) := by decide +kernel
def RJx3cf43 : String := "java/lang/constant/ConstantDesc"
def TJx3cf43 : u_T := fun k => match k with
  | _ => ("", "", "", false)
def tyJx3cf43 : Nat → FieldType := fun k => match k with
  | _ => .int
theorem nmJx3cf43 : ∀ a, a < 0 → ∀ b, b < 0 → a ≠ b → (TJx3cf43 a).2.1 ≠ (TJx3cf43 b).2.1 := by decide +kernel
theorem tyJx3cf43_ok : ∀ k, k < 0 → parseFieldDescriptor (TJx3cf43 k).2.2.1 = some (tyJx3cf43 k) := by decide +kernel
def RJxa1e45 : String := "java/util/AbstractCollection"
def TJxa1e45 : u_T := fun k => match k with
  | _ => ("", "", "", false)
def tyJxa1e45 : Nat → FieldType := fun k => match k with
  | _ => .int
theorem nmJxa1e45 : ∀ a, a < 0 → ∀ b, b < 0 → a ≠ b → (TJxa1e45 a).2.1 ≠ (TJxa1e45 b).2.1 := by decide +kernel
theorem tyJxa1e45_ok : ∀ k, k < 0 → parseFieldDescriptor (TJxa1e45 k).2.2.1 = some (tyJxa1e45 k) := by decide +kernel
abbrev cJxa1e45_init_da8c8 : ByteArray := prog_38_method_1_code
def yJxa1e45_init_da8c8 : MethodName := ⟨RJxa1e45, "<init>", "()V"⟩
def RJxc12de : String := "java/util/AbstractList"
def TJxc12de : u_T := fun k => match k with
  | _ => ("", "", "", false)
def tyJxc12de : Nat → FieldType := fun k => match k with
  | _ => .int
theorem nmJxc12de : ∀ a, a < 0 → ∀ b, b < 0 → a ≠ b → (TJxc12de a).2.1 ≠ (TJxc12de b).2.1 := by decide +kernel
theorem tyJxc12de_ok : ∀ k, k < 0 → parseFieldDescriptor (TJxc12de k).2.2.1 = some (tyJxc12de k) := by decide +kernel
abbrev cJxc12de_init_da8c8 : ByteArray := prog_39_method_1_code
def yJxc12de_init_da8c8 : MethodName := ⟨RJxc12de, "<init>", "()V"⟩
def RJx35411 : String := "java/util/ArrayList$Itr"
def TJx35411 : u_T := fun k => match k with
  | 0 => ("java/util/ArrayList$Itr", "cursor", "I", false)
  | 1 => ("java/util/ArrayList$Itr", "lastRet", "I", false)
  | 2 => ("java/util/ArrayList$Itr", "expectedModCount", "I", false)
  | _ => ("java/util/ArrayList$Itr", "this$0", "Ljava/util/ArrayList;", true)
def tyJx35411 : Nat → FieldType := fun k => match k with
  | 0 => .int
  | 1 => .int
  | 2 => .int
  | _ => .object "java/util/ArrayList"
theorem nmJx35411 : ∀ a, a < 4 → ∀ b, b < 4 → a ≠ b → (TJx35411 a).2.1 ≠ (TJx35411 b).2.1 := by decide +kernel
theorem tyJx35411_ok : ∀ k, k < 4 → parseFieldDescriptor (TJx35411 k).2.2.1 = some (tyJx35411 k) := by decide +kernel
abbrev cJx35411_init_45d68 : ByteArray := prog_41_method_1_code
def yJx35411_init_45d68 : MethodName := ⟨RJx35411, "<init>", "(Ljava/util/ArrayList;)V"⟩
abbrev cJx35411_hasNext_aae02 : ByteArray := prog_41_method_2_code
def yJx35411_hasNext_aae02 : MethodName := ⟨RJx35411, "hasNext", "()Z"⟩
abbrev cJx35411_next_0502b : ByteArray := prog_41_method_3_code
def yJx35411_next_0502b : MethodName := ⟨RJx35411, "next", "()Ljava/lang/Object;"⟩
abbrev cJx35411_checkForComodification_da8c8 : ByteArray := prog_41_method_6_code
def yJx35411_checkForComodification_da8c8 : MethodName := ⟨RJx35411, "checkForComodification", "()V"⟩
def RJx4a65c : String := "java/util/ArrayList"
def TJx4a65c : u_T := fun k => match k with
  | 0 => ("java/util/AbstractList", "modCount", "I", false)
  | 1 => ("java/util/ArrayList", "elementData", "[Ljava/lang/Object;", false)
  | _ => ("java/util/ArrayList", "size", "I", false)
def tyJx4a65c : Nat → FieldType := fun k => match k with
  | 0 => .int
  | 1 => .array (.object "java/lang/Object")
  | _ => .int
theorem nmJx4a65c : ∀ a, a < 3 → ∀ b, b < 3 → a ≠ b → (TJx4a65c a).2.1 ≠ (TJx4a65c b).2.1 := by decide +kernel
theorem tyJx4a65c_ok : ∀ k, k < 3 → parseFieldDescriptor (TJx4a65c k).2.2.1 = some (tyJx4a65c k) := by decide +kernel
abbrev cJx4a65c_init_da8c8 : ByteArray := prog_40_method_2_code
def yJx4a65c_init_da8c8 : MethodName := ⟨RJx4a65c, "<init>", "()V"⟩
abbrev cJx4a65c_grow_92f84 : ByteArray := prog_40_method_6_code
def yJx4a65c_grow_92f84 : MethodName := ⟨RJx4a65c, "grow", "(I)[Ljava/lang/Object;"⟩
abbrev cJx4a65c_grow_d5877 : ByteArray := prog_40_method_7_code
def yJx4a65c_grow_d5877 : MethodName := ⟨RJx4a65c, "grow", "()[Ljava/lang/Object;"⟩
abbrev cJx4a65c_size_8abf5 : ByteArray := prog_40_method_8_code
def yJx4a65c_size_8abf5 : MethodName := ⟨RJx4a65c, "size", "()I"⟩
abbrev cJx4a65c_isEmpty_aae02 : ByteArray := prog_40_method_9_code
def yJx4a65c_isEmpty_aae02 : MethodName := ⟨RJx4a65c, "isEmpty", "()Z"⟩
abbrev cJx4a65c_elementData_915e3 : ByteArray := prog_40_method_18_code
def yJx4a65c_elementData_915e3 : MethodName := ⟨RJx4a65c, "elementData", "(I)Ljava/lang/Object;"⟩
abbrev cJx4a65c_get_915e3 : ByteArray := prog_40_method_20_code
def yJx4a65c_get_915e3 : MethodName := ⟨RJx4a65c, "get", "(I)Ljava/lang/Object;"⟩
abbrev cJx4a65c_add_72be8 : ByteArray := prog_40_method_24_code
def yJx4a65c_add_72be8 : MethodName := ⟨RJx4a65c, "add", "(Ljava/lang/Object;[Ljava/lang/Object;I)V"⟩
abbrev cJx4a65c_add_9ea2d : ByteArray := prog_40_method_25_code
def yJx4a65c_add_9ea2d : MethodName := ⟨RJx4a65c, "add", "(Ljava/lang/Object;)Z"⟩
abbrev cJx4a65c_remove_915e3 : ByteArray := prog_40_method_29_code
def yJx4a65c_remove_915e3 : MethodName := ⟨RJx4a65c, "remove", "(I)Ljava/lang/Object;"⟩
abbrev cJx4a65c_fastRemove_b59b0 : ByteArray := prog_40_method_39_code
def yJx4a65c_fastRemove_b59b0 : MethodName := ⟨RJx4a65c, "fastRemove", "([Ljava/lang/Object;I)V"⟩
abbrev cJx4a65c_clear_da8c8 : ByteArray := prog_40_method_40_code
def yJx4a65c_clear_da8c8 : MethodName := ⟨RJx4a65c, "clear", "()V"⟩
abbrev cJx4a65c_iterator_32c93 : ByteArray := prog_40_method_55_code
def yJx4a65c_iterator_32c93 : MethodName := ⟨RJx4a65c, "iterator", "()Ljava/util/Iterator;"⟩
def RJ7 : String := "java/util/Arrays"
def TJ7 : u_T := fun k => match k with
  | _ => ("", "", "", false)
def tyJ7 : Nat → FieldType := fun k => match k with
  | _ => .int
theorem nmJ7 : ∀ a, a < 0 → ∀ b, b < 0 → a ≠ b → (TJ7 a).2.1 ≠ (TJ7 b).2.1 := by decide +kernel
theorem tyJ7_ok : ∀ k, k < 0 → parseFieldDescriptor (TJ7 k).2.2.1 = some (tyJ7 k) := by decide +kernel
abbrev cJ7_fill_53178 : ByteArray := prog_42_method_103_code
def yJ7_fill_53178 : MethodName := ⟨RJ7, "fill", "([II)V"⟩
abbrev cJ7_copyOf_1904c : ByteArray := prog_42_method_119_code
def yJ7_copyOf_1904c : MethodName := ⟨RJ7, "copyOf", "([Ljava/lang/Object;I)[Ljava/lang/Object;"⟩
abbrev cJ7_copyOf_6403c : ByteArray := prog_42_method_120_code
def yJ7_copyOf_6403c : MethodName := ⟨RJ7, "copyOf", "([Ljava/lang/Object;ILjava/lang/Class;)[Ljava/lang/Object;"⟩
abbrev cJ7_copyOf_59c91 : ByteArray := prog_42_method_123_code
def yJ7_copyOf_59c91 : MethodName := ⟨RJ7, "copyOf", "([II)[I"⟩
def RJx5ef63 : String := "java/util/Collection"
def TJx5ef63 : u_T := fun k => match k with
  | _ => ("", "", "", false)
def tyJx5ef63 : Nat → FieldType := fun k => match k with
  | _ => .int
theorem nmJx5ef63 : ∀ a, a < 0 → ∀ b, b < 0 → a ≠ b → (TJx5ef63 a).2.1 ≠ (TJx5ef63 b).2.1 := by decide +kernel
theorem tyJx5ef63_ok : ∀ k, k < 0 → parseFieldDescriptor (TJx5ef63 k).2.2.1 = some (tyJx5ef63 k) := by decide +kernel
def RJx4d0d8 : String := "java/util/Iterator"
def TJx4d0d8 : u_T := fun k => match k with
  | _ => ("", "", "", false)
def tyJx4d0d8 : Nat → FieldType := fun k => match k with
  | _ => .int
theorem nmJx4d0d8 : ∀ a, a < 0 → ∀ b, b < 0 → a ≠ b → (TJx4d0d8 a).2.1 ≠ (TJx4d0d8 b).2.1 := by decide +kernel
theorem tyJx4d0d8_ok : ∀ k, k < 0 → parseFieldDescriptor (TJx4d0d8 k).2.2.1 = some (tyJx4d0d8 k) := by decide +kernel
def RJxbd725 : String := "java/util/List"
def TJxbd725 : u_T := fun k => match k with
  | _ => ("", "", "", false)
def tyJxbd725 : Nat → FieldType := fun k => match k with
  | _ => .int
theorem nmJxbd725 : ∀ a, a < 0 → ∀ b, b < 0 → a ≠ b → (TJxbd725 a).2.1 ≠ (TJxbd725 b).2.1 := by decide +kernel
theorem tyJxbd725_ok : ∀ k, k < 0 → parseFieldDescriptor (TJxbd725 k).2.2.1 = some (tyJxbd725 k) := by decide +kernel
def RJ15 : String := "java/util/Objects"
def TJ15 : u_T := fun k => match k with
  | _ => ("", "", "", false)
def tyJ15 : Nat → FieldType := fun k => match k with
  | _ => .int
theorem nmJ15 : ∀ a, a < 0 → ∀ b, b < 0 → a ≠ b → (TJ15 a).2.1 ≠ (TJ15 b).2.1 := by decide +kernel
theorem tyJ15_ok : ∀ k, k < 0 → parseFieldDescriptor (TJ15 k).2.2.1 = some (tyJ15 k) := by decide +kernel
abbrev cJ15_checkIndex_7cf53 : ByteArray := prog_47_method_17_code
def yJ15_checkIndex_7cf53 : MethodName := ⟨RJ15, "checkIndex", "(II)I"⟩
def RJxf0a74 : String := "java/util/RandomAccess"
def TJxf0a74 : u_T := fun k => match k with
  | _ => ("", "", "", false)
def tyJxf0a74 : Nat → FieldType := fun k => match k with
  | _ => .int
theorem nmJxf0a74 : ∀ a, a < 0 → ∀ b, b < 0 → a ≠ b → (TJxf0a74 a).2.1 ≠ (TJxf0a74 b).2.1 := by decide +kernel
theorem tyJxf0a74_ok : ∀ k, k < 0 → parseFieldDescriptor (TJxf0a74 k).2.2.1 = some (tyJxf0a74 k) := by decide +kernel
def RJxa66e6 : String := "java/util/SequencedCollection"
def TJxa66e6 : u_T := fun k => match k with
  | _ => ("", "", "", false)
def tyJxa66e6 : Nat → FieldType := fun k => match k with
  | _ => .int
theorem nmJxa66e6 : ∀ a, a < 0 → ∀ b, b < 0 → a ≠ b → (TJxa66e6 a).2.1 ≠ (TJxa66e6 b).2.1 := by decide +kernel
theorem tyJxa66e6_ok : ∀ k, k < 0 → parseFieldDescriptor (TJxa66e6 k).2.2.1 = some (tyJxa66e6 k) := by decide +kernel
def RJ8 : String := "jdk/internal/util/ArraysSupport"
def TJ8 : u_T := fun k => match k with
  | _ => ("", "", "", false)
def tyJ8 : Nat → FieldType := fun k => match k with
  | _ => .int
theorem nmJ8 : ∀ a, a < 0 → ∀ b, b < 0 → a ≠ b → (TJ8 a).2.1 ≠ (TJ8 b).2.1 := by decide +kernel
theorem tyJ8_ok : ∀ k, k < 0 → parseFieldDescriptor (TJ8 k).2.2.1 = some (tyJ8 k) := by decide +kernel
abbrev cJ8_newLength_cabcc : ByteArray := prog_50_method_27_code
def yJ8_newLength_cabcc : MethodName := ⟨RJ8, "newLength", "(III)I"⟩
abbrev cJ8_hugeLength_7cf53 : ByteArray := prog_50_method_28_code
def yJ8_hugeLength_7cf53 : MethodName := ⟨RJ8, "hugeLength", "(II)I"⟩
def RJ3 : String := "jdk/internal/util/Preconditions"
def TJ3 : u_T := fun k => match k with
  | _ => ("", "", "", false)
def tyJ3 : Nat → FieldType := fun k => match k with
  | _ => .int
theorem nmJ3 : ∀ a, a < 0 → ∀ b, b < 0 → a ≠ b → (TJ3 a).2.1 ≠ (TJ3 b).2.1 := by decide +kernel
theorem tyJ3_ok : ∀ k, k < 0 → parseFieldDescriptor (TJ3 k).2.2.1 = some (tyJ3 k) := by decide +kernel
abbrev cJ3_checkIndex_8e157 : ByteArray := prog_51_method_11_code
def yJ3_checkIndex_8e157 : MethodName := ⟨RJ3, "checkIndex", "(IILjava/util/function/BiFunction;)I"⟩
def RL : String := "PersistentParlourLaw"
abbrev cL_vector : ByteArray := method_3_code
def yL_vector : MethodName := ⟨RL, "vector", "(LPersistentParlour;[J)I"⟩
abbrev cL_append : ByteArray := method_4_code
def yL_append : MethodName := ⟨RL, "append", "(LPersistentParlour;II[J)I"⟩
abbrev cL_set : ByteArray := method_5_code
def yL_set : MethodName := ⟨RL, "set", "(LPersistentParlour;III[J)I"⟩
abbrev cL_cut : ByteArray := method_6_code
def yL_cut : MethodName := ⟨RL, "cut", "(LPersistentParlour;I[J)I"⟩
abbrev cL_depth : ByteArray := method_7_code
def yL_depth : MethodName := ⟨RL, "depth", "(LPersistentParlour;I[J)I"⟩
abbrev cL_open : ByteArray := method_8_code
def yL_open : MethodName := ⟨RL, "open", "(LPersistentParlour;I[J)I"⟩
abbrev cL_appendTo : ByteArray := method_9_code
def yL_appendTo : MethodName := ⟨RL, "appendTo", "(LPersistentParlour;II[J)I"⟩
abbrev cL_setIn : ByteArray := method_10_code
def yL_setIn : MethodName := ⟨RL, "setIn", "(LPersistentParlour;III[J)I"⟩
abbrev cL_makeLasting : ByteArray := method_11_code
def yL_makeLasting : MethodName := ⟨RL, "makeLasting", "(LPersistentParlour;I[J)I"⟩
abbrev cL_isOpen : ByteArray := method_12_code
def yL_isOpen : MethodName := ⟨RL, "isOpen", "(LPersistentParlour;I[J)I"⟩
abbrev cL_map : ByteArray := method_13_code
def yL_map : MethodName := ⟨RL, "map", "(LPersistentParlour;[J)I"⟩
abbrev cL_put : ByteArray := method_14_code
def yL_put : MethodName := ⟨RL, "put", "(LPersistentParlour;III[J)I"⟩
abbrev cL_without : ByteArray := method_15_code
def yL_without : MethodName := ⟨RL, "without", "(LPersistentParlour;II[J)I"⟩
abbrev cL_get : ByteArray := method_16_code
def yL_get : MethodName := ⟨RL, "get", "(LPersistentParlour;II[J)I"⟩
abbrev cL_getPlain : ByteArray := method_17_code
def yL_getPlain : MethodName := ⟨RL, "getPlain", "(LPersistentParlour;II[J)I"⟩
abbrev cL_levelOf : ByteArray := method_18_code
def yL_levelOf : MethodName := ⟨RL, "levelOf", "(LPersistentParlour;II[J)I"⟩
abbrev cL_size : ByteArray := method_19_code
def yL_size : MethodName := ⟨RL, "size", "(LPersistentParlour;I[J)I"⟩
abbrev cL_nodes : ByteArray := method_20_code
def yL_nodes : MethodName := ⟨RL, "nodes", "(LPersistentParlour;I[J)I"⟩
abbrev cL_shared : ByteArray := method_21_code
def yL_shared : MethodName := ⟨RL, "shared", "(LPersistentParlour;II[J)I"⟩
abbrev cL_areSame : ByteArray := method_22_code
def yL_areSame : MethodName := ⟨RL, "areSame", "(LPersistentParlour;II[J)I"⟩
abbrev cL_range : ByteArray := method_23_code
def yL_range : MethodName := ⟨RL, "range", "(LPersistentParlour;III[J)I"⟩
abbrev cL_over : ByteArray := method_24_code
def yL_over : MethodName := ⟨RL, "over", "(LPersistentParlour;ICI[J)I"⟩
abbrev cL_at : ByteArray := method_25_code
def yL_at : MethodName := ⟨RL, "at", "(LPersistentParlour;II[J)I"⟩
abbrev cL_all : ByteArray := method_26_code
def yL_all : MethodName := ⟨RL, "all", "(LPersistentParlour;I[J)I"⟩
abbrev cL_realised : ByteArray := method_27_code
def yL_realised : MethodName := ⟨RL, "realised", "(LPersistentParlour;I[J)I"⟩
abbrev cL_chunks : ByteArray := method_28_code
def yL_chunks : MethodName := ⟨RL, "chunks", "(LPersistentParlour;I[J)I"⟩
abbrev cL_collect : ByteArray := method_29_code
def yL_collect : MethodName := ⟨RL, "collect", "(LPersistentParlour;I[J)I"⟩
abbrev cL_addReference : ByteArray := method_30_code
def yL_addReference : MethodName := ⟨RL, "addReference", "(LPersistentParlour;III[J)I"⟩
abbrev cL_begin : ByteArray := method_31_code
def yL_begin : MethodName := ⟨RL, "begin", "(LPersistentParlour;I[J)I"⟩
abbrev cL_read : ByteArray := method_32_code
def yL_read : MethodName := ⟨RL, "read", "(LPersistentParlour;II[J)I"⟩
abbrev cL_write : ByteArray := method_33_code
def yL_write : MethodName := ⟨RL, "write", "(LPersistentParlour;III[J)I"⟩
abbrev cL_ensure : ByteArray := method_34_code
def yL_ensure : MethodName := ⟨RL, "ensure", "(LPersistentParlour;II[J)I"⟩
abbrev cL_add : ByteArray := method_35_code
def yL_add : MethodName := ⟨RL, "add", "(LPersistentParlour;III[J)I"⟩
abbrev cL_commit : ByteArray := method_36_code
def yL_commit : MethodName := ⟨RL, "commit", "(LPersistentParlour;I[J)I"⟩
abbrev cL_end : ByteArray := method_37_code
def yL_end : MethodName := ⟨RL, "end", "(LPersistentParlour;I[J)I"⟩
abbrev cL_sentBack : ByteArray := method_38_code
def yL_sentBack : MethodName := ⟨RL, "sentBack", "(LPersistentParlour;I[J)I"⟩
abbrev cL_valueOf : ByteArray := method_39_code
def yL_valueOf : MethodName := ⟨RL, "valueOf", "(LPersistentParlour;I[J)I"⟩
abbrev cL_valueByLog : ByteArray := method_40_code
def yL_valueByLog : MethodName := ⟨RL, "valueByLog", "(LPersistentParlour;I[J)I"⟩
abbrev cL_history : ByteArray := method_41_code
def yL_history : MethodName := ⟨RL, "history", "(LPersistentParlour;I[J)I"⟩
abbrev cL_logAt : ByteArray := method_42_code
def yL_logAt : MethodName := ⟨RL, "logAt", "(LPersistentParlour;II[J)I"⟩
abbrev cL_addAgent : ByteArray := method_43_code
def yL_addAgent : MethodName := ⟨RL, "addAgent", "(LPersistentParlour;IIIC[J)I"⟩
abbrev cL_send : ByteArray := method_44_code
def yL_send : MethodName := ⟨RL, "send", "(LPersistentParlour;III[J)I"⟩
abbrev cL_act : ByteArray := method_45_code
def yL_act : MethodName := ⟨RL, "act", "(LPersistentParlour;I[J)I"⟩
abbrev cL_beginAnew : ByteArray := method_46_code
def yL_beginAnew : MethodName := ⟨RL, "beginAnew", "(LPersistentParlour;II[J)I"⟩
abbrev cL_errors : ByteArray := method_47_code
def yL_errors : MethodName := ⟨RL, "errors", "(LPersistentParlour;I[J)I"⟩
abbrev cL_sharing : ByteArray := method_48_code
def yL_sharing : MethodName := ⟨RL, "sharing", "(LPersistentParlour;[D)I"⟩
abbrev cL_law : ByteArray := code
def yL_law : MethodName := ⟨RL, "law", "([I)Z"⟩
abbrev vwCl : List vw_C := [(RJ6, TJ6, 1), (RJx35411, TJx35411, 4), (RJx4a65c, TJx4a65c, 3), (RX0, TX0, 7), (RX1, TX1, 4), (RX3, TX3, 7), (RX4, TX4, 1), (RX5, TX5, 7), (RX6, TX6, 9), (RX7, TX7, 10), (RX8, TX8, 5), (RX10, TX10, 2), (RX11, TX11, 14), (RX12, TX12, 7), (RX13, TX13, 5), (RX14, TX14, 6), (RX15, TX15, 10), (RX16, TX16, 19)]
