def RX0 : String := "LineOrigins$Changes"
def TX0 : u_T := fun k => match k with
  | 0 => ("LineOrigins$Changes", "codes", "[I", true)
  | _ => ("LineOrigins$Changes", "number", "I", false)
def tyX0 : Nat → FieldType := fun k => match k with
  | 0 => .array .int
  | _ => .int
theorem nmX0 : ∀ a, a < 2 → ∀ b, b < 2 → a ≠ b → (TX0 a).2.1 ≠ (TX0 b).2.1 := by decide +kernel
theorem tyX0_ok : ∀ k, k < 2 → parseFieldDescriptor (TX0 k).2.2.1 = some (tyX0 k) := by decide +kernel
def RX1 : String := "LineOrigins$Gaps"
def TX1 : u_T := fun k => match k with
  | _ => ("LineOrigins$Gaps", "sources", "[I", true)
def tyX1 : Nat → FieldType := fun k => match k with
  | _ => .array .int
theorem nmX1 : ∀ a, a < 1 → ∀ b, b < 1 → a ≠ b → (TX1 a).2.1 ≠ (TX1 b).2.1 := by decide +kernel
theorem tyX1_ok : ∀ k, k < 1 → parseFieldDescriptor (TX1 k).2.2.1 = some (tyX1 k) := by decide +kernel
def RX2 : String := "LineOrigins$Moves"
def TX2 : u_T := fun k => match k with
  | 0 => ("LineOrigins$Moves", "lengths", "[I", true)
  | _ => ("LineOrigins$Moves", "sources", "[I", true)
def tyX2 : Nat → FieldType := fun k => match k with
  | 0 => .array .int
  | _ => .array .int
theorem nmX2 : ∀ a, a < 2 → ∀ b, b < 2 → a ≠ b → (TX2 a).2.1 ≠ (TX2 b).2.1 := by decide +kernel
theorem tyX2_ok : ∀ k, k < 2 → parseFieldDescriptor (TX2 k).2.2.1 = some (tyX2 k) := by decide +kernel
def RX3 : String := "LineOrigins$Pairing"
def TX3 : u_T := fun k => match k with
  | 0 => ("LineOrigins$Pairing", "which", "I", true)
  | 1 => ("LineOrigins$Pairing", "parents", "[I", true)
  | 2 => ("LineOrigins$Pairing", "pairs", "[I", true)
  | 3 => ("LineOrigins$Pairing", "pairedInParent", "[I", true)
  | 4 => ("LineOrigins$Pairing", "commons", "[I", true)
  | _ => ("LineOrigins$Pairing", "table", "[I", true)
def tyX3 : Nat → FieldType := fun k => match k with
  | 0 => .int
  | 1 => .array .int
  | 2 => .array .int
  | 3 => .array .int
  | 4 => .array .int
  | _ => .array .int
theorem nmX3 : ∀ a, a < 6 → ∀ b, b < 6 → a ≠ b → (TX3 a).2.1 ≠ (TX3 b).2.1 := by decide +kernel
theorem tyX3_ok : ∀ k, k < 6 → parseFieldDescriptor (TX3 k).2.2.1 = some (tyX3 k) := by decide +kernel
def RX4 : String := "LineOrigins$Parentage"
def TX4 : u_T := fun k => match k with
  | 0 => ("LineOrigins$Parentage", "firstPairing", "LLineOrigins$Pairing;", true)
  | 1 => ("LineOrigins$Parentage", "secondPairing", "LLineOrigins$Pairing;", true)
  | 2 => ("LineOrigins$Parentage", "moves", "LLineOrigins$Moves;", true)
  | _ => ("LineOrigins$Parentage", "gaps", "LLineOrigins$Gaps;", true)
def tyX4 : Nat → FieldType := fun k => match k with
  | 0 => .object "LineOrigins$Pairing"
  | 1 => .object "LineOrigins$Pairing"
  | 2 => .object "LineOrigins$Moves"
  | _ => .object "LineOrigins$Gaps"
theorem nmX4 : ∀ a, a < 4 → ∀ b, b < 4 → a ≠ b → (TX4 a).2.1 ≠ (TX4 b).2.1 := by decide +kernel
theorem tyX4_ok : ∀ k, k < 4 → parseFieldDescriptor (TX4 k).2.2.1 = some (tyX4 k) := by decide +kernel
def RX5 : String := "LineOrigins$Reader"
def TX5 : u_T := fun k => match k with
  | _ => ("LineOrigins$Reader", "state", "I", false)
def tyX5 : Nat → FieldType := fun k => match k with
  | _ => .int
theorem nmX5 : ∀ a, a < 1 → ∀ b, b < 1 → a ≠ b → (TX5 a).2.1 ≠ (TX5 b).2.1 := by decide +kernel
theorem tyX5_ok : ∀ k, k < 1 → parseFieldDescriptor (TX5 k).2.2.1 = some (tyX5 k) := by decide +kernel
def RX6 : String := "LineOrigins$Revisions"
def TX6 : u_T := fun k => match k with
  | 0 => ("LineOrigins$Revisions", "number", "I", false)
  | 1 => ("LineOrigins$Revisions", "parents", "[I", true)
  | 2 => ("LineOrigins$Revisions", "sizes", "[I", true)
  | _ => ("LineOrigins$Revisions", "letters", "[I", true)
def tyX6 : Nat → FieldType := fun k => match k with
  | 0 => .int
  | 1 => .array .int
  | 2 => .array .int
  | _ => .array .int
theorem nmX6 : ∀ a, a < 4 → ∀ b, b < 4 → a ≠ b → (TX6 a).2.1 ≠ (TX6 b).2.1 := by decide +kernel
theorem tyX6_ok : ∀ k, k < 4 → parseFieldDescriptor (TX6 k).2.2.1 = some (tyX6 k) := by decide +kernel
def RX7 : String := "LineOrigins$Settings"
def TX7 : u_T := fun k => match k with
  | 0 => ("LineOrigins$Settings", "block", "I", false)
  | 1 => ("LineOrigins$Settings", "passed", "I", false)
  | _ => ("LineOrigins$Settings", "rules", "I", false)
def tyX7 : Nat → FieldType := fun k => match k with
  | 0 => .int
  | 1 => .int
  | _ => .int
theorem nmX7 : ∀ a, a < 3 → ∀ b, b < 3 → a ≠ b → (TX7 a).2.1 ≠ (TX7 b).2.1 := by decide +kernel
theorem tyX7_ok : ∀ k, k < 3 → parseFieldDescriptor (TX7 k).2.2.1 = some (tyX7 k) := by decide +kernel
def RX8 : String := "LineOrigins$Sights"
def TX8 : u_T := fun k => match k with
  | 0 => ("LineOrigins$Sights", "lines", "[I", true)
  | 1 => ("LineOrigins$Sights", "origins", "[I", true)
  | 2 => ("LineOrigins$Sights", "truths", "[Z", true)
  | _ => ("LineOrigins$Sights", "number", "I", false)
def tyX8 : Nat → FieldType := fun k => match k with
  | 0 => .array .int
  | 1 => .array .int
  | 2 => .array .boolean
  | _ => .int
theorem nmX8 : ∀ a, a < 4 → ∀ b, b < 4 → a ≠ b → (TX8 a).2.1 ≠ (TX8 b).2.1 := by decide +kernel
theorem tyX8_ok : ∀ k, k < 4 → parseFieldDescriptor (TX8 k).2.2.1 = some (tyX8 k) := by decide +kernel
def RX9 : String := "LineOrigins$Text"
def TX9 : u_T := fun k => match k with
  | 0 => ("LineOrigins$Text", "letters", "[I", true)
  | _ => ("LineOrigins$Text", "length", "I", false)
def tyX9 : Nat → FieldType := fun k => match k with
  | 0 => .array .int
  | _ => .int
theorem nmX9 : ∀ a, a < 2 → ∀ b, b < 2 → a ≠ b → (TX9 a).2.1 ≠ (TX9 b).2.1 := by decide +kernel
theorem tyX9_ok : ∀ k, k < 2 → parseFieldDescriptor (TX9 k).2.2.1 = some (tyX9 k) := by decide +kernel
def RX10 : String := "LineOrigins$Traces"
def TX10 : u_T := fun k => match k with
  | 0 => ("LineOrigins$Traces", "origins", "[I", true)
  | 1 => ("LineOrigins$Traces", "steps", "[I", true)
  | _ => ("LineOrigins$Traces", "rules", "[I", true)
def tyX10 : Nat → FieldType := fun k => match k with
  | 0 => .array .int
  | 1 => .array .int
  | _ => .array .int
theorem nmX10 : ∀ a, a < 3 → ∀ b, b < 3 → a ≠ b → (TX10 a).2.1 ≠ (TX10 b).2.1 := by decide +kernel
theorem tyX10_ok : ∀ k, k < 3 → parseFieldDescriptor (TX10 k).2.2.1 = some (tyX10 k) := by decide +kernel
def RX11 : String := "LineOrigins"
def TX11 : u_T := fun k => match k with
  | 0 => ("LineOrigins", "text", "LLineOrigins$Text;", true)
  | 1 => ("LineOrigins", "reader", "LLineOrigins$Reader;", true)
  | 2 => ("LineOrigins", "draft", "LLineOrigins$Revisions;", true)
  | 3 => ("LineOrigins", "revisions", "LLineOrigins$Revisions;", true)
  | 4 => ("LineOrigins", "parentage", "LLineOrigins$Parentage;", true)
  | 5 => ("LineOrigins", "settings", "LLineOrigins$Settings;", true)
  | 6 => ("LineOrigins", "trialSettings", "LLineOrigins$Settings;", true)
  | 7 => ("LineOrigins", "traces", "LLineOrigins$Traces;", true)
  | 8 => ("LineOrigins", "trialTraces", "LLineOrigins$Traces;", true)
  | 9 => ("LineOrigins", "changes", "LLineOrigins$Changes;", true)
  | 10 => ("LineOrigins", "sights", "LLineOrigins$Sights;", true)
  | _ => ("LineOrigins", "images", "[I", true)
def tyX11 : Nat → FieldType := fun k => match k with
  | 0 => .object "LineOrigins$Text"
  | 1 => .object "LineOrigins$Reader"
  | 2 => .object "LineOrigins$Revisions"
  | 3 => .object "LineOrigins$Revisions"
  | 4 => .object "LineOrigins$Parentage"
  | 5 => .object "LineOrigins$Settings"
  | 6 => .object "LineOrigins$Settings"
  | 7 => .object "LineOrigins$Traces"
  | 8 => .object "LineOrigins$Traces"
  | 9 => .object "LineOrigins$Changes"
  | 10 => .object "LineOrigins$Sights"
  | _ => .array .int
theorem nmX11 : ∀ a, a < 12 → ∀ b, b < 12 → a ≠ b → (TX11 a).2.1 ≠ (TX11 b).2.1 := by decide +kernel
theorem tyX11_ok : ∀ k, k < 12 → parseFieldDescriptor (TX11 k).2.2.1 = some (tyX11 k) := by decide +kernel
def RX12 : String := "LineOriginsModel"
def TX12 : u_T := fun k => match k with
  | 0 => ("LineOriginsModel", "revisions", "I", false)
  | 1 => ("LineOriginsModel", "sizes", "[I", true)
  | 2 => ("LineOriginsModel", "parents", "[I", true)
  | 3 => ("LineOriginsModel", "letters", "[I", true)
  | 4 => ("LineOriginsModel", "pairs", "[I", true)
  | 5 => ("LineOriginsModel", "isPaired", "[I", true)
  | 6 => ("LineOriginsModel", "st", "[I", true)
  | 7 => ("LineOriginsModel", "past", "[I", true)
  | 8 => ("LineOriginsModel", "undoMany", "I", false)
  | 9 => ("LineOriginsModel", "text", "[I", true)
  | 10 => ("LineOriginsModel", "length", "I", false)
  | 11 => ("LineOriginsModel", "place", "I", false)
  | 12 => ("LineOriginsModel", "from", "I", false)
  | 13 => ("LineOriginsModel", "token", "I", false)
  | 14 => ("LineOriginsModel", "number", "I", false)
  | 15 => ("LineOriginsModel", "wrong", "I", false)
  | 16 => ("LineOriginsModel", "newMany", "I", false)
  | 17 => ("LineOriginsModel", "newSizes", "[I", true)
  | 18 => ("LineOriginsModel", "newParents", "[I", true)
  | 19 => ("LineOriginsModel", "newLetters", "[I", true)
  | 20 => ("LineOriginsModel", "common", "[I", true)
  | 21 => ("LineOriginsModel", "origins", "[I", true)
  | 22 => ("LineOriginsModel", "steps", "[I", true)
  | 23 => ("LineOriginsModel", "seen", "[I", true)
  | 24 => ("LineOriginsModel", "seenMany", "I", false)
  | 25 => ("LineOriginsModel", "images", "[I", true)
  | _ => ("LineOriginsModel", "isKept", "[Z", true)
def tyX12 : Nat → FieldType := fun k => match k with
  | 0 => .int
  | 1 => .array .int
  | 2 => .array .int
  | 3 => .array .int
  | 4 => .array .int
  | 5 => .array .int
  | 6 => .array .int
  | 7 => .array .int
  | 8 => .int
  | 9 => .array .int
  | 10 => .int
  | 11 => .int
  | 12 => .int
  | 13 => .int
  | 14 => .int
  | 15 => .int
  | 16 => .int
  | 17 => .array .int
  | 18 => .array .int
  | 19 => .array .int
  | 20 => .array .int
  | 21 => .array .int
  | 22 => .array .int
  | 23 => .array .int
  | 24 => .int
  | 25 => .array .int
  | _ => .array .boolean
theorem nmX12 : ∀ a, a < 27 → ∀ b, b < 27 → a ≠ b → (TX12 a).2.1 ≠ (TX12 b).2.1 := by decide +kernel
theorem tyX12_ok : ∀ k, k < 27 → parseFieldDescriptor (TX12 k).2.2.1 = some (tyX12 k) := by decide +kernel
def RL : String := "LineOriginsLaw"
def cls : List vw_C := [(RX0, TX0, 2), (RX1, TX1, 1), (RX2, TX2, 2), (RX3, TX3, 6), (RX4, TX4, 4), (RX5, TX5, 1), (RX6, TX6, 4), (RX7, TX7, 3), (RX8, TX8, 4), (RX9, TX9, 2), (RX10, TX10, 3), (RX11, TX11, 12), (RX12, TX12, 27)]
def nmC (c : Nat) : String := (cls.getD c (RL, TX0, 0)).1
def tyC (c : Nat) : Nat → FieldType := [tyX0, tyX1, tyX2, tyX3, tyX4, tyX5, tyX6, tyX7, tyX8, tyX9, tyX10, tyX11, tyX12].getD c tyX0
/-- the fields of a new object: an int, or null -/
def bl (c : Nat) : List (Option (Option Nat)) := [[some none, none], [some none], [some none, some none], [none, some none, some none, some none, some none, some none], [some none, some none, some none, some none], [none], [none, some none, some none, some none], [none, none, none], [some none, some none, some none, none], [some none, none], [some none, some none, some none], [some none, some none, some none, some none, some none, some none, some none, some none, some none, some none, some none, some none], [none, some none, some none, some none, some none, some none, some none, some none, none, some none, none, none, none, none, none, none, none, some none, some none, some none, some none, some none, some none, some none, none, some none, some none]].getD c []
abbrev MTy : Type := MethodName × ByteArray × Nat × Nat × Nat × Nat × Nat × Nat × Nat × Nat × Nat
/-- a method: name, bytes, locals, answer (0 none, 1 int, 2 boolean), arguments with the receiver, frames, words, cells, slots, class, kind (0 instance, 1 constructor, 2 static) -/
def mt_0 : MTy := (⟨RX0, "<init>", "()V"⟩, prog_2_method_1_code, 1, 0, 1, 1, 12, 1, 10, 0, 1)
def mt_1 : MTy := (⟨RX0, "size", "()I"⟩, prog_2_method_2_code, 1, 1, 1, 0, 0, 0, 0, 0, 0)
def mt_2 : MTy := (⟨RX0, "becomeEmpty", "()V"⟩, prog_2_method_3_code, 1, 0, 1, 0, 0, 0, 0, 0, 0)
def mt_3 : MTy := (⟨RX0, "add", "(I)V"⟩, prog_2_method_4_code, 2, 0, 2, 1, 21, 0, 0, 0, 0)
def mt_4 : MTy := (⟨RX0, "loseOldest", "()V"⟩, prog_2_method_5_code, 2, 0, 1, 0, 0, 0, 0, 0, 0)
def mt_5 : MTy := (⟨RX0, "takeLatest", "()I"⟩, prog_2_method_6_code, 1, 1, 1, 0, 0, 0, 0, 0, 0)
def mt_6 : MTy := (⟨RX1, "<init>", "()V"⟩, prog_3_method_1_code, 1, 0, 1, 1, 12, 1, 64, 1, 1)
def mt_7 : MTy := (⟨RX1, "source", "(II)I"⟩, prog_3_method_2_code, 3, 1, 3, 1, 21, 0, 0, 1, 0)
def mt_8 : MTy := (⟨RX1, "workOut", "(LLineOrigins$Revisions;LLineOrigins$Pairing;)V"⟩, prog_3_method_3_code, 9, 0, 3, 3, 68, 0, 0, 1, 0)
def mt_9 : MTy := (⟨RX1, "isUnpaired", "(LLineOrigins$Revisions;LLineOrigins$Pairing;III)Z"⟩, prog_3_method_4_code, 6, 2, 5, 2, 43, 0, 0, 1, 2)
def mt_10 : MTy := (⟨RX2, "<init>", "()V"⟩, prog_4_method_1_code, 1, 0, 1, 1, 12, 2, 128, 2, 1)
def mt_11 : MTy := (⟨RX2, "lengthOf", "(II)I"⟩, prog_4_method_2_code, 3, 1, 3, 1, 21, 0, 0, 2, 0)
def mt_12 : MTy := (⟨RX2, "source", "(II)I"⟩, prog_4_method_3_code, 3, 1, 3, 1, 21, 0, 0, 2, 0)
def mt_13 : MTy := (⟨RX2, "workOut", "(LLineOrigins$Revisions;LLineOrigins$Pairing;)V"⟩, prog_4_method_4_code, 5, 0, 3, 4, 96, 0, 0, 2, 0)
def mt_14 : MTy := (⟨RX2, "workOutOne", "(LLineOrigins$Revisions;LLineOrigins$Pairing;I)V"⟩, prog_4_method_5_code, 7, 0, 4, 3, 70, 0, 0, 2, 0)
def mt_15 : MTy := (⟨RX2, "rowLength", "(LLineOrigins$Revisions;LLineOrigins$Pairing;III)I"⟩, prog_4_method_6_code, 7, 1, 5, 2, 44, 0, 0, 2, 2)
def mt_16 : MTy := (⟨RX2, "offer", "(IIII)V"⟩, prog_4_method_7_code, 6, 0, 5, 2, 43, 0, 0, 2, 0)
def mt_17 : MTy := (⟨RX3, "<init>", "(I)V"⟩, prog_5_method_1_code, 2, 0, 2, 1, 12, 5, 169, 3, 1)
def mt_18 : MTy := (⟨RX3, "parent", "(I)I"⟩, prog_5_method_2_code, 2, 1, 2, 0, 0, 0, 0, 3, 0)
def mt_19 : MTy := (⟨RX3, "pair", "(II)I"⟩, prog_5_method_3_code, 3, 1, 3, 1, 21, 0, 0, 3, 0)
def mt_20 : MTy := (⟨RX3, "isPaired", "(II)Z"⟩, prog_5_method_4_code, 3, 2, 3, 1, 21, 0, 0, 3, 0)
def mt_21 : MTy := (⟨RX3, "commonOfAll", "(I)I"⟩, prog_5_method_5_code, 2, 1, 2, 0, 0, 0, 0, 3, 0)
def mt_22 : MTy := (⟨RX3, "workOut", "(LLineOrigins$Revisions;)V"⟩, prog_5_method_6_code, 4, 0, 2, 3, 73, 0, 0, 3, 0)
def mt_23 : MTy := (⟨RX3, "becomeUnpaired", "(I)V"⟩, prog_5_method_7_code, 3, 0, 2, 1, 21, 0, 0, 3, 0)
def mt_24 : MTy := (⟨RX3, "fillTable", "(LLineOrigins$Revisions;II)V"⟩, prog_5_method_8_code, 10, 0, 4, 2, 44, 0, 0, 3, 0)
def mt_25 : MTy := (⟨RX3, "commonFrom", "(II)I"⟩, prog_5_method_9_code, 3, 1, 3, 0, 0, 0, 0, 3, 0)
def mt_26 : MTy := (⟨RX3, "setCommonFrom", "(III)V"⟩, prog_5_method_10_code, 4, 0, 4, 0, 0, 0, 0, 3, 0)
def mt_27 : MTy := (⟨RX3, "walk", "(LLineOrigins$Revisions;II)V"⟩, prog_5_method_11_code, 7, 0, 4, 2, 44, 0, 0, 3, 0)
def mt_28 : MTy := (⟨RX3, "setPair", "(III)V"⟩, prog_5_method_12_code, 4, 0, 4, 1, 21, 0, 0, 3, 0)
def mt_29 : MTy := (⟨RX4, "<init>", "()V"⟩, prog_6_method_1_code, 1, 0, 1, 2, 33, 17, 545, 4, 1)
def mt_30 : MTy := (⟨RX4, "workOut", "(LLineOrigins$Revisions;)V"⟩, prog_6_method_2_code, 2, 0, 2, 5, 120, 0, 0, 4, 0)
def mt_31 : MTy := (⟨RX4, "pair", "(III)I"⟩, prog_6_method_3_code, 4, 1, 4, 2, 43, 0, 0, 4, 0)
def mt_32 : MTy := (⟨RX4, "commonOfAll", "(II)I"⟩, prog_6_method_4_code, 3, 1, 3, 1, 21, 0, 0, 4, 0)
def mt_33 : MTy := (⟨RX4, "given", "(IIILLineOrigins$Settings;)I"⟩, prog_6_method_5_code, 7, 1, 5, 3, 67, 0, 0, 4, 0)
def mt_34 : MTy := (⟨RX4, "sourceBy", "(IIILLineOrigins$Settings;)I"⟩, prog_6_method_6_code, 5, 1, 5, 2, 43, 0, 0, 4, 0)
def mt_35 : MTy := (⟨RX5, "<init>", "()V"⟩, prog_7_method_1_code, 1, 0, 1, 1, 12, 0, 0, 5, 1)
def mt_36 : MTy := (⟨RX5, "read", "(LLineOrigins$Text;LLineOrigins$Revisions;)I"⟩, prog_7_method_2_code, 4, 1, 3, 4, 89, 0, 0, 5, 0)
def mt_37 : MTy := (⟨RX5, "beginsToken", "(LLineOrigins$Text;I)Z"⟩, prog_7_method_3_code, 2, 2, 2, 2, 43, 0, 0, 5, 2)
def mt_38 : MTy := (⟨RX5, "takes", "(LLineOrigins$Text;ILLineOrigins$Revisions;)Z"⟩, prog_7_method_4_code, 5, 2, 4, 3, 65, 0, 0, 5, 0)
def mt_39 : MTy := (⟨RX5, "takesRevision", "(LLineOrigins$Revisions;)Z"⟩, prog_7_method_5_code, 2, 2, 2, 1, 20, 0, 0, 5, 0)
def mt_40 : MTy := (⟨RX5, "takesColon", "()Z"⟩, prog_7_method_6_code, 1, 2, 1, 0, 0, 0, 0, 5, 0)
def mt_41 : MTy := (⟨RX5, "takesEnd", "(LLineOrigins$Revisions;)Z"⟩, prog_7_method_7_code, 2, 2, 2, 1, 20, 0, 0, 5, 0)
def mt_42 : MTy := (⟨RX6, "<init>", "()V"⟩, prog_8_method_1_code, 1, 0, 1, 1, 12, 3, 88, 6, 1)
def mt_43 : MTy := (⟨RX6, "told", "()I"⟩, prog_8_method_2_code, 1, 1, 1, 0, 0, 0, 0, 6, 0)
def mt_44 : MTy := (⟨RX6, "has", "(I)Z"⟩, prog_8_method_3_code, 2, 2, 2, 0, 0, 0, 0, 6, 0)
def mt_45 : MTy := (⟨RX6, "hasLine", "(II)Z"⟩, prog_8_method_4_code, 3, 2, 3, 0, 0, 0, 0, 6, 0)
def mt_46 : MTy := (⟨RX6, "size", "(I)I"⟩, prog_8_method_5_code, 2, 1, 2, 1, 21, 0, 0, 6, 0)
def mt_47 : MTy := (⟨RX6, "parent", "(II)I"⟩, prog_8_method_6_code, 3, 1, 3, 1, 21, 0, 0, 6, 0)
def mt_48 : MTy := (⟨RX6, "letter", "(II)I"⟩, prog_8_method_7_code, 3, 1, 3, 1, 22, 0, 0, 6, 0)
def mt_49 : MTy := (⟨RX6, "allLines", "()I"⟩, prog_8_method_8_code, 3, 1, 1, 0, 0, 0, 0, 6, 0)
def mt_50 : MTy := (⟨RX6, "becomeEmpty", "()V"⟩, prog_8_method_9_code, 1, 0, 1, 0, 0, 0, 0, 6, 0)
def mt_51 : MTy := (⟨RX6, "begin", "()Z"⟩, prog_8_method_10_code, 1, 2, 1, 0, 0, 0, 0, 6, 0)
def mt_52 : MTy := (⟨RX6, "addParent", "(I)Z"⟩, prog_8_method_11_code, 4, 2, 2, 1, 21, 0, 0, 6, 0)
def mt_53 : MTy := (⟨RX6, "addLine", "(I)Z"⟩, prog_8_method_12_code, 2, 2, 2, 1, 21, 0, 0, 6, 0)
def mt_54 : MTy := (⟨RX6, "end", "()V"⟩, prog_8_method_13_code, 1, 0, 1, 0, 0, 0, 0, 6, 0)
def mt_55 : MTy := (⟨RX6, "copyFrom", "(LLineOrigins$Revisions;)V"⟩, prog_8_method_14_code, 2, 0, 2, 1, 26, 0, 0, 6, 0)
def mt_56 : MTy := (⟨RX7, "<init>", "()V"⟩, prog_9_method_1_code, 1, 0, 1, 1, 12, 0, 0, 7, 1)
def mt_57 : MTy := (⟨RX7, "becomeAsAtFirst", "()V"⟩, prog_9_method_2_code, 1, 0, 1, 0, 0, 0, 0, 7, 0)
def mt_58 : MTy := (⟨RX7, "code", "()I"⟩, prog_9_method_3_code, 1, 1, 1, 0, 0, 0, 0, 7, 0)
def mt_59 : MTy := (⟨RX7, "become", "(I)V"⟩, prog_9_method_4_code, 2, 0, 2, 0, 0, 0, 0, 7, 0)
def mt_60 : MTy := (⟨RX7, "block", "()I"⟩, prog_9_method_5_code, 1, 1, 1, 0, 0, 0, 0, 7, 0)
def mt_61 : MTy := (⟨RX7, "setBlock", "(I)V"⟩, prog_9_method_6_code, 2, 0, 2, 0, 0, 0, 0, 7, 0)
def mt_62 : MTy := (⟨RX7, "isLongEnough", "(I)Z"⟩, prog_9_method_7_code, 2, 2, 2, 0, 0, 0, 0, 7, 0)
def mt_63 : MTy := (⟨RX7, "passedBits", "()I"⟩, prog_9_method_8_code, 1, 1, 1, 0, 0, 0, 0, 7, 0)
def mt_64 : MTy := (⟨RX7, "isPassed", "(I)Z"⟩, prog_9_method_9_code, 2, 2, 2, 0, 0, 0, 0, 7, 0)
def mt_65 : MTy := (⟨RX7, "turnPassed", "(I)V"⟩, prog_9_method_10_code, 2, 0, 2, 0, 0, 0, 0, 7, 0)
def mt_66 : MTy := (⟨RX7, "ruleBits", "()I"⟩, prog_9_method_11_code, 1, 1, 1, 0, 0, 0, 0, 7, 0)
def mt_67 : MTy := (⟨RX7, "isOn", "(I)Z"⟩, prog_9_method_12_code, 2, 2, 2, 0, 0, 0, 0, 7, 0)
def mt_68 : MTy := (⟨RX7, "turnRule", "(I)V"⟩, prog_9_method_13_code, 2, 0, 2, 0, 0, 0, 0, 7, 0)
def mt_69 : MTy := (⟨RX8, "<init>", "()V"⟩, prog_10_method_1_code, 1, 0, 1, 1, 12, 3, 18, 8, 1)
def mt_70 : MTy := (⟨RX8, "size", "()I"⟩, prog_10_method_2_code, 1, 1, 1, 0, 0, 0, 0, 8, 0)
def mt_71 : MTy := (⟨RX8, "becomeEmpty", "()V"⟩, prog_10_method_3_code, 1, 0, 1, 0, 0, 0, 0, 8, 0)
def mt_72 : MTy := (⟨RX8, "add", "(IIZ)V"⟩, prog_10_method_4_code, 4, 0, 4, 0, 0, 0, 0, 8, 0)
def mt_73 : MTy := (⟨RX8, "areAllSo", "(LLineOrigins$Traces;)Z"⟩, prog_10_method_5_code, 4, 2, 2, 2, 43, 0, 0, 8, 0)
def mt_74 : MTy := (⟨RX9, "<init>", "()V"⟩, prog_11_method_1_code, 1, 0, 1, 1, 12, 1, 120, 9, 1)
def mt_75 : MTy := (⟨RX9, "size", "()I"⟩, prog_11_method_2_code, 1, 1, 1, 0, 0, 0, 0, 9, 0)
def mt_76 : MTy := (⟨RX9, "add", "(I)V"⟩, prog_11_method_3_code, 2, 0, 2, 0, 0, 0, 0, 9, 0)
def mt_77 : MTy := (⟨RX9, "becomeEmpty", "()V"⟩, prog_11_method_4_code, 1, 0, 1, 0, 0, 0, 0, 9, 0)
def mt_78 : MTy := (⟨RX9, "at", "(I)I"⟩, prog_11_method_5_code, 2, 1, 2, 0, 0, 0, 0, 9, 0)
def mt_79 : MTy := (⟨RX9, "isDigit", "(I)Z"⟩, prog_11_method_6_code, 3, 2, 2, 1, 21, 0, 0, 9, 0)
def mt_80 : MTy := (⟨RX9, "numberAt", "(I)I"⟩, prog_11_method_7_code, 3, 1, 2, 2, 43, 0, 0, 9, 0)
def mt_81 : MTy := (⟨RX10, "<init>", "()V"⟩, prog_12_method_1_code, 1, 0, 1, 1, 12, 3, 192, 10, 1)
def mt_82 : MTy := (⟨RX10, "origin", "(II)I"⟩, prog_12_method_2_code, 3, 1, 3, 1, 21, 0, 0, 10, 0)
def mt_83 : MTy := (⟨RX10, "steps", "(II)I"⟩, prog_12_method_3_code, 3, 1, 3, 1, 21, 0, 0, 10, 0)
def mt_84 : MTy := (⟨RX10, "rule", "(II)I"⟩, prog_12_method_4_code, 3, 1, 3, 1, 21, 0, 0, 10, 0)
def mt_85 : MTy := (⟨RX10, "follow", "(LLineOrigins$Revisions;LLineOrigins$Parentage;LLineOrigins$Settings;)V"⟩, prog_12_method_5_code, 6, 0, 4, 5, 120, 0, 0, 10, 0)
def mt_86 : MTy := (⟨RX10, "followOne", "(LLineOrigins$Parentage;LLineOrigins$Settings;II)V"⟩, prog_12_method_6_code, 8, 0, 5, 4, 93, 0, 0, 10, 0)
def mt_87 : MTy := (⟨RX11, "<init>", "()V"⟩, prog_1_method_1_code, 1, 0, 1, 3, 53, 46, 1288, 11, 1)
def mt_88 : MTy := (⟨RX11, "type", "(I)I"⟩, prog_1_method_2_code, 2, 1, 2, 1, 21, 0, 0, 11, 0)
def mt_89 : MTy := (⟨RX11, "clear", "()I"⟩, prog_1_method_3_code, 2, 1, 1, 1, 20, 0, 0, 11, 0)
def mt_90 : MTy := (⟨RX11, "history", "()I"⟩, prog_1_method_4_code, 3, 1, 1, 7, 165, 0, 0, 11, 0)
def mt_91 : MTy := (⟨RX11, "revision", "(II)I"⟩, prog_1_method_5_code, 3, 1, 3, 2, 43, 0, 0, 11, 0)
def mt_92 : MTy := (⟨RX11, "line", "(III)I"⟩, prog_1_method_6_code, 4, 1, 4, 3, 66, 0, 0, 11, 0)
def mt_93 : MTy := (⟨RX11, "blocks", "(I)I"⟩, prog_1_method_7_code, 3, 1, 2, 7, 165, 0, 0, 11, 0)
def mt_94 : MTy := (⟨RX11, "passes", "(I)I"⟩, prog_1_method_8_code, 2, 1, 2, 7, 165, 0, 0, 11, 0)
def mt_95 : MTy := (⟨RX11, "rules", "(I)I"⟩, prog_1_method_9_code, 2, 1, 2, 7, 165, 0, 0, 11, 0)
def mt_96 : MTy := (⟨RX11, "undo", "()I"⟩, prog_1_method_10_code, 1, 1, 1, 7, 165, 0, 0, 11, 0)
def mt_97 : MTy := (⟨RX11, "gives", "(III)I"⟩, prog_1_method_11_code, 4, 1, 4, 4, 93, 0, 0, 11, 0)
def mt_98 : MTy := (⟨RX11, "begun", "(II)I"⟩, prog_1_method_12_code, 5, 1, 3, 2, 43, 0, 0, 11, 0)
def mt_99 : MTy := (⟨RX11, "age", "(II)I"⟩, prog_1_method_13_code, 4, 1, 3, 3, 69, 0, 0, 11, 0)
def mt_100 : MTy := (⟨RX11, "like", "(III)I"⟩, prog_1_method_14_code, 4, 1, 4, 3, 67, 0, 0, 11, 0)
def mt_101 : MTy := (⟨RX11, "carried", "(II)I"⟩, prog_1_method_15_code, 5, 1, 3, 3, 67, 0, 0, 11, 0)
def mt_102 : MTy := (⟨RX11, "kept", "(II)I"⟩, prog_1_method_16_code, 5, 1, 3, 3, 67, 0, 0, 11, 0)
def mt_103 : MTy := (⟨RX11, "common", "(II)I"⟩, prog_1_method_17_code, 3, 1, 3, 2, 43, 0, 0, 11, 0)
def mt_104 : MTy := (⟨RX11, "sees", "(IIII)I"⟩, prog_1_method_18_code, 5, 1, 5, 1, 23, 0, 0, 11, 0)
def mt_105 : MTy := (⟨RX11, "forget", "()I"⟩, prog_1_method_19_code, 2, 1, 1, 1, 20, 0, 0, 11, 0)
def mt_106 : MTy := (⟨RX11, "unseen", "()I"⟩, prog_1_method_20_code, 3, 1, 1, 6, 145, 0, 0, 11, 0)
def mt_107 : MTy := (⟨RX11, "keep", "(I)I"⟩, prog_1_method_21_code, 2, 1, 2, 1, 20, 0, 0, 11, 0)
def mt_108 : MTy := (⟨RX11, "back", "(I)I"⟩, prog_1_method_22_code, 2, 1, 2, 7, 165, 0, 0, 11, 0)
def mt_109 : MTy := (⟨RX11, "count", "(I)I"⟩, prog_1_method_23_code, 2, 1, 2, 3, 66, 0, 0, 11, 0)
def mt_110 : MTy := (⟨RX11, "traceAnew", "()V"⟩, prog_1_method_24_code, 1, 0, 1, 6, 145, 0, 0, 11, 0)
def mt_111 : MTy := (⟨RX11, "linesFrom", "(II)I"⟩, prog_1_method_25_code, 5, 1, 3, 2, 43, 0, 0, 11, 0)
def mt_112 : MTy := (⟨RX11, "olderOnes", "(II)I"⟩, prog_1_method_26_code, 7, 1, 3, 2, 43, 0, 0, 11, 0)
def mt_113 : MTy := (⟨RX11, "ownOrigins", "()I"⟩, prog_1_method_27_code, 4, 1, 1, 2, 43, 0, 0, 11, 0)
def mt_114 : MTy := (⟨RX11, "address", "(II)I"⟩, prog_1_method_28_code, 2, 1, 2, 0, 0, 0, 0, 11, 2)
def mt_115 : MTy := (⟨RX11, "isPlace", "(II)Z"⟩, prog_1_method_29_code, 2, 2, 2, 0, 0, 0, 0, 11, 2)
def mt_116 : MTy := (⟨RX12, "<init>", "()V"⟩, prog_14_method_1_code, 1, 0, 1, 1, 20, 17, 762, 12, 1)
def mt_117 : MTy := (⟨RX12, "begin", "()V"⟩, prog_14_method_2_code, 1, 0, 1, 0, 0, 0, 0, 12, 0)
def mt_118 : MTy := (⟨RX12, "in", "(JJJ)Z"⟩, prog_14_method_3_code, 6, 2, 3, 0, 0, 0, 0, 12, 2)
def mt_119 : MTy := (⟨RX12, "has", "(II)Z"⟩, prog_14_method_4_code, 2, 2, 2, 0, 0, 0, 0, 12, 2)
def mt_120 : MTy := (⟨RX12, "isRevision", "(I)Z"⟩, prog_14_method_5_code, 2, 2, 2, 1, 25, 0, 0, 12, 0)
def mt_121 : MTy := (⟨RX12, "isLine", "(II)Z"⟩, prog_14_method_6_code, 3, 2, 3, 2, 46, 0, 0, 12, 0)
def mt_122 : MTy := (⟨RX12, "type", "(I)I"⟩, prog_14_method_7_code, 2, 1, 2, 1, 25, 0, 0, 12, 0)
def mt_123 : MTy := (⟨RX12, "clear", "()I"⟩, prog_14_method_8_code, 2, 1, 1, 0, 0, 0, 0, 12, 0)
def mt_124 : MTy := (⟨RX12, "next", "()V"⟩, prog_14_method_9_code, 2, 0, 1, 1, 25, 0, 0, 12, 0)
def mt_125 : MTy := (⟨RX12, "faults", "()Z"⟩, prog_14_method_10_code, 1, 2, 1, 0, 0, 0, 0, 12, 0)
def mt_126 : MTy := (⟨RX12, "takesParents", "(I)Z"⟩, prog_14_method_11_code, 3, 2, 2, 2, 46, 0, 0, 12, 0)
def mt_127 : MTy := (⟨RX12, "takesItem", "()Z"⟩, prog_14_method_12_code, 2, 2, 1, 3, 68, 0, 0, 12, 0)
def mt_128 : MTy := (⟨RX12, "history", "()I"⟩, prog_14_method_13_code, 2, 1, 1, 4, 89, 0, 0, 12, 0)
def mt_129 : MTy := (⟨RX12, "letterOf", "(II)I"⟩, prog_14_method_14_code, 3, 1, 3, 0, 0, 0, 0, 12, 0)
def mt_130 : MTy := (⟨RX12, "layCommon", "(II)V"⟩, prog_14_method_15_code, 9, 0, 3, 1, 22, 0, 0, 12, 0)
def mt_131 : MTy := (⟨RX12, "layPairs", "(II)V"⟩, prog_14_method_16_code, 6, 0, 3, 2, 50, 0, 0, 12, 0)
def mt_132 : MTy := (⟨RX12, "pairOf", "(III)I"⟩, prog_14_method_17_code, 4, 1, 4, 0, 0, 0, 0, 12, 0)
def mt_133 : MTy := (⟨RX12, "rowFrom", "(IIII)I"⟩, prog_14_method_18_code, 6, 1, 5, 1, 23, 0, 0, 12, 0)
def mt_134 : MTy := (⟨RX12, "movedOf", "(II)I"⟩, prog_14_method_19_code, 9, 1, 3, 2, 48, 0, 0, 12, 0)
def mt_135 : MTy := (⟨RX12, "passedOf", "(II)I"⟩, prog_14_method_20_code, 9, 1, 3, 1, 23, 0, 0, 12, 0)
def mt_136 : MTy := (⟨RX12, "givenBy", "(III)I"⟩, prog_14_method_21_code, 4, 1, 4, 3, 76, 0, 0, 12, 0)
def mt_137 : MTy := (⟨RX12, "told", "(II)I"⟩, prog_14_method_22_code, 3, 1, 3, 0, 0, 0, 0, 12, 0)
def mt_138 : MTy := (⟨RX12, "ruleOf", "(II)I"⟩, prog_14_method_23_code, 4, 1, 3, 4, 99, 0, 0, 12, 0)
def mt_139 : MTy := (⟨RX12, "lay", "()V"⟩, prog_14_method_24_code, 5, 0, 1, 5, 122, 0, 0, 12, 0)
def mt_140 : MTy := (⟨RX12, "revision", "(II)I"⟩, prog_14_method_25_code, 3, 1, 3, 2, 46, 0, 0, 12, 0)
def mt_141 : MTy := (⟨RX12, "line", "(III)I"⟩, prog_14_method_26_code, 4, 1, 4, 6, 146, 0, 0, 12, 0)
def mt_142 : MTy := (⟨RX12, "note", "()V"⟩, prog_14_method_27_code, 2, 0, 1, 0, 0, 0, 0, 12, 0)
def mt_143 : MTy := (⟨RX12, "blocks", "(I)I"⟩, prog_14_method_28_code, 3, 1, 2, 1, 25, 0, 0, 12, 0)
def mt_144 : MTy := (⟨RX12, "passes", "(I)I"⟩, prog_14_method_29_code, 2, 1, 2, 2, 46, 0, 0, 12, 0)
def mt_145 : MTy := (⟨RX12, "rules", "(I)I"⟩, prog_14_method_30_code, 2, 1, 2, 1, 25, 0, 0, 12, 0)
def mt_146 : MTy := (⟨RX12, "undo", "()I"⟩, prog_14_method_31_code, 2, 1, 1, 0, 0, 0, 0, 12, 0)
def mt_147 : MTy := (⟨RX12, "gives", "(III)I"⟩, prog_14_method_32_code, 4, 1, 4, 4, 99, 0, 0, 12, 0)
def mt_148 : MTy := (⟨RX12, "begun", "(II)I"⟩, prog_14_method_33_code, 5, 1, 3, 6, 146, 0, 0, 12, 0)
def mt_149 : MTy := (⟨RX12, "age", "(II)I"⟩, prog_14_method_34_code, 8, 1, 3, 6, 146, 0, 0, 12, 0)
def mt_150 : MTy := (⟨RX12, "linesOf", "(II)I"⟩, prog_14_method_35_code, 5, 1, 3, 0, 0, 0, 0, 12, 0)
def mt_151 : MTy := (⟨RX12, "like", "(III)I"⟩, prog_14_method_36_code, 4, 1, 4, 6, 146, 0, 0, 12, 0)
def mt_152 : MTy := (⟨RX12, "carried", "(II)I"⟩, prog_14_method_37_code, 5, 1, 3, 6, 146, 0, 0, 12, 0)
def mt_153 : MTy := (⟨RX12, "kept", "(II)I"⟩, prog_14_method_38_code, 6, 1, 3, 6, 146, 0, 0, 12, 0)
def mt_154 : MTy := (⟨RX12, "common", "(II)I"⟩, prog_14_method_39_code, 4, 1, 3, 2, 50, 0, 0, 12, 0)
def mt_155 : MTy := (⟨RX12, "sees", "(IIII)I"⟩, prog_14_method_40_code, 5, 1, 5, 3, 68, 0, 0, 12, 0)
def mt_156 : MTy := (⟨RX12, "forget", "()I"⟩, prog_14_method_41_code, 2, 1, 1, 0, 0, 0, 0, 12, 0)
def mt_157 : MTy := (⟨RX12, "isSeenSo", "()Z"⟩, prog_14_method_42_code, 4, 2, 1, 6, 146, 0, 0, 12, 0)
def mt_158 : MTy := (⟨RX12, "unseen", "()I"⟩, prog_14_method_43_code, 3, 1, 1, 7, 169, 0, 0, 12, 0)
def mt_159 : MTy := (⟨RX12, "keep", "(I)I"⟩, prog_14_method_44_code, 3, 1, 2, 1, 25, 0, 0, 12, 0)
def mt_160 : MTy := (⟨RX12, "back", "(I)I"⟩, prog_14_method_45_code, 3, 1, 2, 1, 25, 0, 0, 12, 0)
def mt_161 : MTy := (⟨RX12, "allLines", "()I"⟩, prog_14_method_46_code, 3, 1, 1, 0, 0, 0, 0, 12, 0)
def mt_162 : MTy := (⟨RX12, "ownMany", "()I"⟩, prog_14_method_47_code, 4, 1, 1, 6, 146, 0, 0, 12, 0)
def mt_163 : MTy := (⟨RX12, "count", "(I)I"⟩, prog_14_method_48_code, 2, 1, 2, 7, 169, 0, 0, 12, 0)
def MT : List MTy := [mt_0, mt_1, mt_2, mt_3, mt_4, mt_5, mt_6, mt_7, mt_8, mt_9, mt_10, mt_11, mt_12, mt_13, mt_14, mt_15, mt_16, mt_17, mt_18, mt_19, mt_20, mt_21, mt_22, mt_23, mt_24, mt_25, mt_26, mt_27, mt_28, mt_29, mt_30, mt_31, mt_32, mt_33, mt_34, mt_35, mt_36, mt_37, mt_38, mt_39, mt_40, mt_41, mt_42, mt_43, mt_44, mt_45, mt_46, mt_47, mt_48, mt_49, mt_50, mt_51, mt_52, mt_53, mt_54, mt_55, mt_56, mt_57, mt_58, mt_59, mt_60, mt_61, mt_62, mt_63, mt_64, mt_65, mt_66, mt_67, mt_68, mt_69, mt_70, mt_71, mt_72, mt_73, mt_74, mt_75, mt_76, mt_77, mt_78, mt_79, mt_80, mt_81, mt_82, mt_83, mt_84, mt_85, mt_86, mt_87, mt_88, mt_89, mt_90, mt_91, mt_92, mt_93, mt_94, mt_95, mt_96, mt_97, mt_98, mt_99, mt_100, mt_101, mt_102, mt_103, mt_104, mt_105, mt_106, mt_107, mt_108, mt_109, mt_110, mt_111, mt_112, mt_113, mt_114, mt_115, mt_116, mt_117, mt_118, mt_119, mt_120, mt_121, mt_122, mt_123, mt_124, mt_125, mt_126, mt_127, mt_128, mt_129, mt_130, mt_131, mt_132, mt_133, mt_134, mt_135, mt_136, mt_137, mt_138, mt_139, mt_140, mt_141, mt_142, mt_143, mt_144, mt_145, mt_146, mt_147, mt_148, mt_149, mt_150, mt_151, mt_152, mt_153, mt_154, mt_155, mt_156, mt_157, mt_158, mt_159, mt_160, mt_161, mt_162, mt_163]
def mt (k : Nat) : MTy := MT.getD k mt_0
def mY (k : Nat) : MethodName := (mt k).1
def mB (k : Nat) : ByteArray := (mt k).2.1
def mL (k : Nat) : Nat := (mt k).2.2.1
def mR (k : Nat) : Nat := (mt k).2.2.2.1
def mN (k : Nat) : Nat := (mt k).2.2.2.2.1
def mF (k : Nat) : Nat := (mt k).2.2.2.2.2.1
def mO (k : Nat) : Nat := (mt k).2.2.2.2.2.2.1
def mC (k : Nat) : Nat := (mt k).2.2.2.2.2.2.2.1
def mS (k : Nat) : Nat := (mt k).2.2.2.2.2.2.2.2.1
def mI (k : Nat) : Nat := (mt k).2.2.2.2.2.2.2.2.2.1
def mZ (k : Nat) : Nat := (mt k).2.2.2.2.2.2.2.2.2.2
def rT (n : Nat) : Option FieldType := if n = 0 then none else if n = 1 then some .int else some .boolean
/-- no local of the method is a long -/
def nL (k : Nat) : Bool := !(k == 118)
/-- field links: class, entry, the field's class, its place, the word's place -/
def FK : List (Nat × Nat × Nat × Nat × Nat) := [(0, 9, 0, 0, 214), (0, 15, 0, 1, 215), (1, 9, 1, 0, 159), (2, 9, 2, 0, 146), (2, 15, 2, 1, 147), (3, 9, 3, 1, 122), (3, 15, 3, 2, 123), (3, 18, 3, 3, 124), (3, 21, 3, 4, 125), (3, 24, 3, 5, 126), (3, 27, 3, 0, 121), (4, 14, 4, 0, 163), (4, 20, 4, 1, 164), (4, 26, 4, 2, 165), (4, 33, 4, 3, 166), (5, 11, 5, 0, 86), (6, 9, 6, 0, 96), (6, 15, 6, 1, 97), (6, 19, 6, 2, 98), (6, 22, 6, 3, 99), (7, 9, 7, 0, 182), (7, 15, 7, 1, 183), (7, 18, 7, 2, 184), (8, 9, 8, 0, 227), (8, 15, 8, 1, 228), (8, 18, 8, 2, 229), (8, 22, 8, 3, 230), (9, 9, 9, 0, 72), (9, 15, 9, 1, 73), (10, 9, 10, 0, 198), (10, 15, 10, 1, 199), (10, 18, 10, 2, 200), (11, 12, 11, 0, 241), (11, 19, 11, 1, 242), (11, 26, 11, 2, 243), (11, 30, 11, 3, 244), (11, 36, 11, 4, 245), (11, 43, 11, 5, 246), (11, 47, 11, 6, 247), (11, 53, 11, 7, 248), (11, 57, 11, 8, 249), (11, 63, 11, 9, 250), (11, 70, 11, 10, 251), (11, 74, 11, 11, 252), (12, 7, 12, 1, 738), (12, 13, 12, 2, 739), (12, 16, 12, 3, 740), (12, 19, 12, 4, 741), (12, 22, 12, 5, 742), (12, 25, 12, 6, 743), (12, 28, 12, 7, 744), (12, 31, 12, 9, 746), (12, 34, 12, 17, 754), (12, 37, 12, 18, 755), (12, 40, 12, 19, 756), (12, 43, 12, 20, 757), (12, 46, 12, 21, 758), (12, 49, 12, 22, 759), (12, 52, 12, 23, 760), (12, 55, 12, 25, 762), (12, 58, 12, 26, 763), (12, 65, 12, 8, 745), (12, 69, 12, 24, 761), (12, 72, 12, 0, 737), (12, 85, 12, 10, 747), (12, 88, 12, 11, 748), (12, 91, 12, 12, 749), (12, 94, 12, 13, 750), (12, 97, 12, 14, 751), (12, 108, 12, 15, 752), (12, 118, 12, 16, 753)]
/-- method links: class, entry, kind (0 max, 1 arraycopy, 2 Object(), 3 instance, 4 static, 5 static of a nest mate, 6 constructor, 7 of a nest mate), callee, the word's place -/
def MK : List (Nat × Nat × Nat × Nat × Nat) := [(0, 19, 3, 4, 587), (0, 3, 2, 0, 213), (1, 23, 4, 9, 465), (1, 27, 3, 19, 472), (1, 3, 2, 0, 158), (1, 32, 3, 47, 468), (1, 37, 3, 46, 469), (1, 41, 3, 20, 470), (2, 26, 3, 14, 434), (2, 3, 2, 0, 145), (2, 30, 3, 47, 438), (2, 35, 3, 46, 439), (2, 39, 4, 15, 440), (2, 43, 3, 16, 452), (2, 47, 3, 48, 443), (2, 50, 3, 20, 444), (2, 55, 3, 19, 448), (2, 58, 3, 11, 456), (3, 3, 2, 0, 120), (3, 39, 3, 23, 382), (3, 43, 3, 47, 387), (3, 48, 3, 24, 391), (3, 52, 3, 27, 418), (3, 55, 3, 46, 395), (3, 59, 3, 48, 399), (3, 62, 3, 25, 407), (3, 65, 0, 0, 411), (3, 70, 3, 26, 414), (3, 74, 3, 28, 422), (4, 11, 6, 17, 117), (4, 3, 2, 0, 114), (4, 37, 3, 22, 378), (4, 41, 3, 13, 429), (4, 44, 3, 8, 461), (4, 45, 3, 19, 520), (4, 49, 3, 21, 670), (4, 53, 3, 18, 512), (4, 56, 3, 34, 516), (4, 63, 3, 11, 521), (4, 66, 3, 62, 522), (4, 72, 3, 12, 526), (4, 75, 3, 64, 530), (4, 78, 3, 7, 534), (5, 15, 3, 50, 306), (5, 20, 3, 75, 310), (5, 26, 4, 37, 311), (5, 3, 2, 0, 85), (5, 30, 3, 38, 323), (5, 34, 3, 78, 314), (5, 38, 3, 79, 318), (5, 42, 3, 39, 327), (5, 46, 3, 40, 335), (5, 50, 3, 41, 339), (5, 53, 3, 53, 347), (5, 56, 3, 80, 354), (5, 59, 3, 52, 359), (5, 62, 3, 51, 331), (5, 65, 3, 54, 343), (6, 25, 3, 44, 363), (6, 29, 3, 45, 403), (6, 3, 2, 0, 95), (6, 37, 1, 0, 371), (7, 3, 2, 0, 181), (8, 26, 3, 82, 698), (8, 3, 2, 0, 226), (9, 19, 3, 78, 322), (9, 23, 3, 79, 358), (9, 3, 2, 0, 71), (10, 29, 3, 43, 493), (10, 3, 2, 0, 197), (10, 35, 3, 46, 497), (10, 39, 3, 86, 499), (10, 43, 3, 67, 504), (10, 49, 3, 33, 508), (11, 100, 3, 57, 473), (11, 103, 3, 2, 477), (11, 104, 3, 71, 481), (11, 105, 3, 110, 485), (11, 108, 3, 43, 540), (11, 111, 3, 44, 545), (11, 115, 3, 46, 546), (11, 118, 3, 47, 547), (11, 122, 3, 64, 548), (11, 125, 3, 45, 553), (11, 129, 3, 48, 554), (11, 132, 3, 31, 555), (11, 136, 3, 84, 559), (11, 139, 3, 82, 563), (11, 142, 3, 83, 567), (11, 145, 3, 60, 575), (11, 148, 3, 58, 579), (11, 151, 3, 3, 583), (11, 152, 3, 61, 591), (11, 155, 3, 65, 599), (11, 158, 3, 68, 607), (11, 161, 3, 67, 611), (11, 164, 3, 1, 616), (11, 165, 3, 5, 620), (11, 168, 3, 59, 624), (11, 171, 3, 33, 632), (11, 175, 3, 112, 641), (11, 178, 3, 111, 649), (11, 181, 4, 114, 657), (11, 184, 3, 32, 666), (11, 187, 3, 70, 678), (11, 188, 3, 72, 682), (11, 191, 3, 85, 489), (11, 195, 3, 73, 694), (11, 199, 3, 63, 711), (11, 202, 3, 66, 715), (11, 205, 3, 49, 719), (11, 208, 3, 113, 723), (11, 3, 2, 0, 63), (11, 78, 3, 75, 282), (11, 82, 3, 76, 286), (11, 86, 3, 77, 294), (11, 89, 3, 36, 302), (11, 93, 3, 55, 367), (11, 97, 3, 30, 374), (12, 1, 2, 0, 732), (12, 111, 3, 124, 835), (12, 114, 3, 125, 847), (12, 121, 3, 126, 851), (12, 124, 3, 127, 843), (12, 127, 3, 131, 855), (12, 131, 3, 129, 863), (12, 135, 3, 130, 859), (12, 138, 3, 132, 898), (12, 142, 3, 133, 906), (12, 146, 4, 119, 875), (12, 150, 3, 134, 902), (12, 153, 3, 135, 910), (12, 156, 3, 136, 894), (12, 159, 3, 138, 890), (12, 162, 3, 137, 914), (12, 165, 3, 121, 882), (12, 168, 3, 139, 886), (12, 173, 3, 142, 923), (12, 178, 3, 150, 956), (12, 181, 3, 157, 984), (12, 184, 3, 161, 1000), (12, 188, 3, 162, 1004), (12, 62, 3, 117, 733), (12, 75, 4, 118, 824), (12, 79, 3, 120, 871), (1, 15, 5, 115, 538), (1, 19, 5, 114, 471), (2, 18, 5, 115, 460), (2, 22, 5, 114, 433), (3, 31, 5, 115, 426), (3, 35, 5, 114, 386), (4, 25, 7, 10, 142), (4, 32, 7, 6, 155), (4, 60, 5, 114, 539), (6, 33, 5, 114, 351), (10, 21, 5, 115, 498), (10, 25, 5, 114, 503), (11, 11, 7, 74, 68), (11, 18, 7, 35, 82), (11, 25, 7, 42, 92), (11, 35, 7, 29, 111), (11, 42, 7, 56, 178), (11, 52, 7, 81, 194), (11, 62, 7, 0, 210), (11, 69, 7, 69, 223)]
/-- class links: class, entry, class, the words' places -/
def CK : List (Nat × Nat × Nat × Nat × Nat) := [(11, 9, 9, 66, 67), (11, 16, 5, 80, 81), (11, 23, 6, 90, 91), (11, 33, 4, 109, 110), (4, 9, 3, 115, 116), (4, 23, 2, 140, 141), (4, 30, 1, 153, 154), (11, 40, 7, 176, 177), (11, 50, 10, 192, 193), (11, 60, 0, 208, 209), (11, 67, 8, 221, 222)]
def KK : List (Nat × Nat × Int × Nat) := [(12, 83, 255, 823), (12, 100, 97, 839), (12, 102, 122, 840), (12, 104, 48, 841), (12, 106, 57, 842), (12, 171, 4, 922), (12, 176, 3, 935)]
/-- a method's words: its code; instanceMethod or static; selects (an instance method's) -/
def MW : List (Nat × Nat × Nat) := [(212, 211, 0), (619, 617, 618), (480, 478, 479), (586, 584, 585), (590, 589, 15), (623, 621, 622), (157, 156, 0), (537, 535, 536), (464, 462, 463), (467, 466, 0), (144, 143, 0), (459, 457, 458), (529, 527, 528), (432, 430, 431), (437, 436, 10), (442, 441, 0), (455, 454, 11), (119, 118, 0), (515, 513, 514), (451, 449, 450), (447, 445, 446), (673, 671, 672), (381, 379, 380), (385, 384, 4), (394, 393, 5), (410, 409, 6), (417, 416, 7), (421, 420, 8), (425, 424, 9), (113, 112, 0), (377, 375, 376), (558, 556, 557), (669, 667, 668), (511, 509, 510), (519, 518, 14), (84, 83, 0), (305, 303, 304), (313, 312, 0), (326, 325, 0), (330, 329, 1), (338, 337, 2), (342, 341, 3), (94, 93, 0), (496, 494, 495), (366, 364, 365), (406, 404, 405), (398, 396, 397), (390, 388, 389), (402, 400, 401), (722, 720, 721), (309, 307, 308), (334, 332, 333), (362, 360, 361), (350, 348, 349), (346, 344, 345), (370, 368, 369), (180, 179, 0), (476, 474, 475), (582, 580, 581), (627, 625, 626), (578, 576, 577), (594, 592, 593), (525, 523, 524), (714, 712, 713), (533, 531, 532), (602, 600, 601), (718, 716, 717), (507, 505, 506), (610, 608, 609), (225, 224, 0), (681, 679, 680), (484, 482, 483), (685, 683, 684), (697, 695, 696), (70, 69, 0), (285, 283, 284), (289, 287, 288), (297, 295, 296), (317, 315, 316), (321, 319, 320), (357, 355, 356), (196, 195, 0), (566, 564, 565), (570, 568, 569), (562, 560, 561), (492, 490, 491), (502, 501, 13), (62, 61, 0), (281, 279, 280), (293, 291, 292), (301, 299, 300), (544, 542, 543), (552, 550, 551), (574, 572, 573), (598, 596, 597), (606, 604, 605), (615, 613, 614), (631, 629, 630), (636, 634, 635), (640, 638, 639), (648, 646, 647), (656, 654, 655), (661, 659, 660), (665, 663, 664), (677, 675, 676), (689, 687, 688), (693, 691, 692), (702, 700, 701), (706, 704, 705), (710, 708, 709), (488, 487, 12), (652, 651, 17), (644, 643, 16), (726, 725, 18), (353, 352, 0), (428, 427, 0), (731, 730, 0), (736, 735, 19), (826, 825, 0), (877, 876, 0), (874, 873, 27), (885, 884, 28), (822, 820, 821), (830, 828, 829), (838, 837, 20), (850, 849, 22), (854, 853, 23), (846, 845, 21), (834, 832, 833), (866, 865, 26), (862, 861, 25), (858, 857, 24), (901, 900, 32), (909, 908, 34), (905, 904, 33), (913, 912, 35), (897, 896, 31), (917, 916, 36), (893, 892, 30), (889, 888, 29), (870, 868, 869), (881, 879, 880), (926, 925, 37), (921, 919, 920), (930, 928, 929), (934, 932, 933), (939, 937, 938), (943, 941, 942), (947, 945, 946), (951, 949, 950), (959, 958, 38), (955, 953, 954), (963, 961, 962), (967, 965, 966), (971, 969, 970), (975, 973, 974), (979, 977, 978), (987, 986, 39), (983, 981, 982), (991, 989, 990), (995, 993, 994), (1003, 1002, 40), (1007, 1006, 41), (999, 997, 998)]
def IW : List Nat := [53, 50, 49, 48, 47, 45, 46, 51, 54, 44, 52, 43, 55]
/-- the words of the fields of a class: their places -/
def LW : List (List Nat) := [[216, 218], [160], [148, 150], [127, 129, 131, 133, 135, 137], [167, 169, 171, 173], [87], [100, 102, 104, 106], [185, 187, 189], [231, 233, 235, 237], [74, 76], [201, 203, 205], [253, 255, 257, 259, 261, 263, 265, 267, 269, 271, 273, 275], [764, 766, 768, 770, 772, 774, 776, 778, 780, 782, 784, 786, 788, 790, 792, 794, 796, 798, 800, 802, 804, 806, 808, 810, 812, 814, 816]]
def JW : List Nat := [412, 57, 413, 373, 372, 56, 64, 65, 79, 240]
