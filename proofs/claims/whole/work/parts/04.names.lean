/-! NAMES: classes, fields, methods (own program out of the listing and the tables) -/
def rn_De : String := "ReversalDesk"
def rn_Sl : String := "ReversalDesk$Slot"
def rn_Te : String := "ReversalDesk$Text"
def rn_Dr : String := "ReversalDesk$Drawing"
def rn_Ch : String := "ReversalDesk$Chart"
def rn_Mo : String := "ReversalDeskModel"
def rn_La : String := "ReversalDeskLaw"
def tb_De : u_T := fun k => match k with
  | 0 => ("ReversalDesk", "genesNow", "I", false)
  | 1 => ("ReversalDesk", "slots", "[LReversalDesk$Slot;", true)
  | 2 => ("ReversalDesk", "text", "LReversalDesk$Text;", true)
  | 3 => ("ReversalDesk", "sheet", "LReversalDesk$Drawing;", true)
  | 4 => ("ReversalDesk", "charts", "[LReversalDesk$Chart;", true)
  | 5 => ("ReversalDesk", "steps", "[I", true)
  | 6 => ("ReversalDesk", "stepCount", "I", false)
  | 7 => ("ReversalDesk", "signedPlaces", "[I", true)
  | 8 => ("ReversalDesk", "relativeRow", "[I", true)
  | _ => ("ReversalDesk", "tried", "[I", true)
def ty_De : Nat → FieldType := fun k => match k with
  | 0 => .int
  | 1 => .array (.object "ReversalDesk$Slot")
  | 2 => .object "ReversalDesk$Text"
  | 3 => .object "ReversalDesk$Drawing"
  | 4 => .array (.object "ReversalDesk$Chart")
  | 5 => .array .int
  | 6 => .int
  | 7 => .array .int
  | 8 => .array .int
  | _ => .array .int
theorem nm_De : ∀ a, a < 10 → ∀ b, b < 10 → a ≠ b → (tb_De a).2.1 ≠ (tb_De b).2.1 := by decide +kernel
theorem tk_De : ∀ k, k < 10 → parseFieldDescriptor (tb_De k).2.2.1 = some (ty_De k) := by decide +kernel
def tb_Sl : u_T := fun k => match k with
  | 0 => ("ReversalDesk$Slot", "order", "[I", true)
  | 1 => ("ReversalDesk$Slot", "firstPlaces", "[I", true)
  | 2 => ("ReversalDesk$Slot", "lastPlaces", "[I", true)
  | _ => ("ReversalDesk$Slot", "kept", "I", false)
def ty_Sl : Nat → FieldType := fun k => match k with
  | 0 => .array .int
  | 1 => .array .int
  | 2 => .array .int
  | _ => .int
theorem nm_Sl : ∀ a, a < 4 → ∀ b, b < 4 → a ≠ b → (tb_Sl a).2.1 ≠ (tb_Sl b).2.1 := by decide +kernel
theorem tk_Sl : ∀ k, k < 4 → parseFieldDescriptor (tb_Sl k).2.2.1 = some (ty_Sl k) := by decide +kernel
def tb_Te : u_T := fun k => match k with
  | 0 => ("ReversalDesk$Text", "characters", "[I", true)
  | _ => ("ReversalDesk$Text", "length", "I", false)
def ty_Te : Nat → FieldType := fun k => match k with
  | 0 => .array .int
  | _ => .int
theorem nm_Te : ∀ a, a < 2 → ∀ b, b < 2 → a ≠ b → (tb_Te a).2.1 ≠ (tb_Te b).2.1 := by decide +kernel
theorem tk_Te : ∀ k, k < 2 → parseFieldDescriptor (tb_Te k).2.2.1 = some (ty_Te k) := by decide +kernel
def tb_Dr : u_T := fun k => match k with
  | 0 => ("ReversalDesk$Drawing", "lesserSpot", "[I", true)
  | 1 => ("ReversalDesk$Drawing", "greaterSpot", "[I", true)
  | 2 => ("ReversalDesk$Drawing", "lines", "I", false)
  | 3 => ("ReversalDesk$Drawing", "spots", "I", false)
  | 4 => ("ReversalDesk$Drawing", "framedRow", "[I", true)
  | 5 => ("ReversalDesk$Drawing", "endAt", "[I", true)
  | 6 => ("ReversalDesk$Drawing", "spotOf", "[I", true)
  | 7 => ("ReversalDesk$Drawing", "seen", "[Z", true)
  | 8 => ("ReversalDesk$Drawing", "partOf", "[I", true)
  | 9 => ("ReversalDesk$Drawing", "bad", "[Z", true)
  | _ => ("ReversalDesk$Drawing", "badAround", "[I", true)
def ty_Dr : Nat → FieldType := fun k => match k with
  | 0 => .array .int
  | 1 => .array .int
  | 2 => .int
  | 3 => .int
  | 4 => .array .int
  | 5 => .array .int
  | 6 => .array .int
  | 7 => .array .boolean
  | 8 => .array .int
  | 9 => .array .boolean
  | _ => .array .int
theorem nm_Dr : ∀ a, a < 11 → ∀ b, b < 11 → a ≠ b → (tb_Dr a).2.1 ≠ (tb_Dr b).2.1 := by decide +kernel
theorem tk_Dr : ∀ k, k < 11 → parseFieldDescriptor (tb_Dr k).2.2.1 = some (ty_Dr k) := by decide +kernel
def tb_Ch : u_T := fun k => match k with
  | 0 => ("ReversalDesk$Chart", "orders", "I", true)
  | 1 => ("ReversalDesk$Chart", "toPlain", "[I", true)
  | 2 => ("ReversalDesk$Chart", "genes", "I", true)
  | 3 => ("ReversalDesk$Chart", "walked", "[I", true)
  | _ => ("ReversalDesk$Chart", "knownWays", "[J", true)
def ty_Ch : Nat → FieldType := fun k => match k with
  | 0 => .int
  | 1 => .array .int
  | 2 => .int
  | 3 => .array .int
  | _ => .array .long
theorem nm_Ch : ∀ a, a < 5 → ∀ b, b < 5 → a ≠ b → (tb_Ch a).2.1 ≠ (tb_Ch b).2.1 := by decide +kernel
theorem tk_Ch : ∀ k, k < 5 → parseFieldDescriptor (tb_Ch k).2.2.1 = some (ty_Ch k) := by decide +kernel
def tb_Mo : u_T := fun k => match k with
  | 0 => ("ReversalDeskModel", "thrown", "I", false)
  | 1 => ("ReversalDeskModel", "genes", "I", false)
  | 2 => ("ReversalDeskModel", "orders", "[I", true)
  | 3 => ("ReversalDeskModel", "kept", "[I", true)
  | 4 => ("ReversalDeskModel", "turns", "[I", true)
  | 5 => ("ReversalDeskModel", "text", "[I", true)
  | 6 => ("ReversalDeskModel", "length", "I", false)
  | 7 => ("ReversalDeskModel", "planned", "Z", false)
  | 8 => ("ReversalDeskModel", "steps", "I", false)
  | 9 => ("ReversalDeskModel", "plan", "[I", true)
  | 10 => ("ReversalDeskModel", "made", "[Z", true)
  | 11 => ("ReversalDeskModel", "base", "I", false)
  | 12 => ("ReversalDeskModel", "found", "I", false)
  | 13 => ("ReversalDeskModel", "far", "[I", true)
  | 14 => ("ReversalDeskModel", "queue", "[I", true)
  | 15 => ("ReversalDeskModel", "many", "[J", true)
  | 16 => ("ReversalDeskModel", "row", "[I", true)
  | 17 => ("ReversalDeskModel", "other", "[I", true)
  | 18 => ("ReversalDeskModel", "between", "[I", true)
  | 19 => ("ReversalDeskModel", "ends", "[I", true)
  | 20 => ("ReversalDeskModel", "spots", "[I", true)
  | 21 => ("ReversalDeskModel", "part", "[I", true)
  | 22 => ("ReversalDeskModel", "bad", "[Z", true)
  | 23 => ("ReversalDeskModel", "seen", "[Z", true)
  | _ => ("ReversalDeskModel", "sequence", "[I", true)
def ty_Mo : Nat → FieldType := fun k => match k with
  | 0 => .int
  | 1 => .int
  | 2 => .array .int
  | 3 => .array .int
  | 4 => .array .int
  | 5 => .array .int
  | 6 => .int
  | 7 => .boolean
  | 8 => .int
  | 9 => .array .int
  | 10 => .array .boolean
  | 11 => .int
  | 12 => .int
  | 13 => .array .int
  | 14 => .array .int
  | 15 => .array .long
  | 16 => .array .int
  | 17 => .array .int
  | 18 => .array .int
  | 19 => .array .int
  | 20 => .array .int
  | 21 => .array .int
  | 22 => .array .boolean
  | 23 => .array .boolean
  | _ => .array .int
theorem nm_Mo : ∀ a, a < 25 → ∀ b, b < 25 → a ≠ b → (tb_Mo a).2.1 ≠ (tb_Mo b).2.1 := by decide +kernel
theorem tk_Mo : ∀ k, k < 25 → parseFieldDescriptor (tb_Mo k).2.2.1 = some (ty_Mo k) := by decide +kernel
def mm_cl : List vw_C := [(rn_De, tb_De, 10), (rn_Sl, tb_Sl, 4), (rn_Te, tb_Te, 2), (rn_Dr, tb_Dr, 11), (rn_Ch, tb_Ch, 5), (rn_Mo, tb_Mo, 25)]
def mm_nf : Nat → Nat := fun c => match c with
  | 0 => 10
  | 1 => 4
  | 2 => 2
  | 3 => 11
  | 4 => 5
  | _ => 25
def mm_tf : Nat → Nat → FieldType := fun c => match c with
  | 0 => ty_De
  | 1 => ty_Sl
  | 2 => ty_Te
  | 3 => ty_Dr
  | 4 => ty_Ch
  | _ => ty_Mo
def mm_tys (tc : Nat → ClassId) : List (ClassId × FieldType) := [(tc 0, .int), (tc 1, .boolean), (tc 2, .long), (tc 3, .object "ReversalDesk$Slot"), (tc 4, .object "ReversalDesk$Chart")]
/-- name, bytes, locals, return type, handlers -/
abbrev mm_M : Type := MethodName × ByteArray × Nat × Option FieldType × List (Nat × Nat × Nat × Nat)
def yn_De_init : MethodName := ⟨rn_De, "<init>", "()V"⟩
abbrev mt_De_init : mm_M := (yn_De_init, cd_De_init, 2, none, [])
def yn_Sl_init : MethodName := ⟨rn_Sl, "<init>", "()V"⟩
abbrev mt_Sl_init : mm_M := (yn_Sl_init, cd_Sl_init, 1, none, [])
def yn_Sl_becomePlain : MethodName := ⟨rn_Sl, "becomePlain", "()V"⟩
abbrev mt_Sl_becomePlain : mm_M := (yn_Sl_becomePlain, cd_Sl_becomePlain, 2, none, [])
def yn_Te_init : MethodName := ⟨rn_Te, "<init>", "()V"⟩
abbrev mt_Te_init : mm_M := (yn_Te_init, cd_Te_init, 1, none, [])
def yn_Dr_init : MethodName := ⟨rn_Dr, "<init>", "()V"⟩
abbrev mt_Dr_init : mm_M := (yn_Dr_init, cd_Dr_init, 1, none, [])
def yn_De_write : MethodName := ⟨rn_De, "write", "(J)I"⟩
abbrev mt_De_write : mm_M := (yn_De_write, cd_De_write, 3, (some .int), [])
def yn_Te_add : MethodName := ⟨rn_Te, "add", "(J)I"⟩
abbrev mt_Te_add : mm_M := (yn_Te_add, cd_Te_add, 6, (some .int), [])
def yn_Te_byteAt : MethodName := ⟨rn_Te, "byteAt", "(JI)I"⟩
abbrev mt_Te_byteAt : mm_M := (yn_Te_byteAt, cd_Te_byteAt, 3, (some .int), [])
def yn_De_wipe : MethodName := ⟨rn_De, "wipe", "()I"⟩
abbrev mt_De_wipe : mm_M := (yn_De_wipe, cd_De_wipe, 1, (some .int), [])
def yn_Te_empty : MethodName := ⟨rn_Te, "empty", "()I"⟩
abbrev mt_Te_empty : mm_M := (yn_Te_empty, cd_Te_empty, 2, (some .int), [])
def yn_La_genes : MethodName := ⟨rn_La, "genes", "(LReversalDesk;I)I"⟩
abbrev mt_La_genes : mm_M := (yn_La_genes, cd_La_genes, 3, (some .int), [(0, 5, 8, 13)])
def yn_De_genes : MethodName := ⟨rn_De, "genes", "(I)V"⟩
abbrev mt_De_genes : mm_M := (yn_De_genes, cd_De_genes, 3, none, [])
def yn_La_read : MethodName := ⟨rn_La, "read", "(LReversalDesk;I[J)I"⟩
abbrev mt_La_read : mm_M := (yn_La_read, cd_La_read, 4, (some .int), [(0, 9, 12, 19)])
def yn_De_read : MethodName := ⟨rn_De, "read", "(I)I"⟩
abbrev mt_De_read : mm_M := (yn_De_read, cd_De_read, 3, (some .int), [])
def yn_De_checkSlot : MethodName := ⟨rn_De, "checkSlot", "(I)V"⟩
abbrev mt_De_checkSlot : mm_M := (yn_De_checkSlot, cd_De_checkSlot, 1, none, [])
def yn_Te_parse : MethodName := ⟨rn_Te, "parse", "([II)I"⟩
abbrev mt_Te_parse : mm_M := (yn_Te_parse, cd_Te_parse, 9, (some .int), [])
def yn_Sl_become : MethodName := ⟨rn_Sl, "become", "([I)V"⟩
abbrev mt_Sl_become : mm_M := (yn_Sl_become, cd_Sl_become, 2, none, [])
def yn_La_gene : MethodName := ⟨rn_La, "gene", "(LReversalDesk;II[J)I"⟩
abbrev mt_La_gene : mm_M := (yn_La_gene, cd_La_gene, 5, (some .int), [(0, 10, 13, 19)])
def yn_De_gene : MethodName := ⟨rn_De, "gene", "(II)I"⟩
abbrev mt_De_gene : mm_M := (yn_De_gene, cd_De_gene, 3, (some .int), [])
def yn_La_copy : MethodName := ⟨rn_La, "copy", "(LReversalDesk;II)I"⟩
abbrev mt_La_copy : mm_M := (yn_La_copy, cd_La_copy, 4, (some .int), [(0, 6, 9, 19)])
def yn_De_copy : MethodName := ⟨rn_De, "copy", "(II)V"⟩
abbrev mt_De_copy : mm_M := (yn_De_copy, cd_De_copy, 3, none, [])
def yn_De_checkSlots : MethodName := ⟨rn_De, "checkSlots", "(II)V"⟩
abbrev mt_De_checkSlots : mm_M := (yn_De_checkSlots, cd_De_checkSlots, 2, none, [])
def yn_La_reverse : MethodName := ⟨rn_La, "reverse", "(LReversalDesk;III)I"⟩
abbrev mt_La_reverse : mm_M := (yn_La_reverse, cd_La_reverse, 5, (some .int), [(0, 7, 10, 19)])
def yn_De_reverse : MethodName := ⟨rn_De, "reverse", "(III)V"⟩
abbrev mt_De_reverse : mm_M := (yn_De_reverse, cd_De_reverse, 4, none, [])
def yn_Sl_turnAndKeep : MethodName := ⟨rn_Sl, "turnAndKeep", "(II)V"⟩
abbrev mt_Sl_turnAndKeep : mm_M := (yn_Sl_turnAndKeep, cd_Sl_turnAndKeep, 3, none, [])
def yn_De_turn : MethodName := ⟨rn_De, "turn", "([III)V"⟩
abbrev mt_De_turn : mm_M := (yn_De_turn, cd_De_turn, 6, none, [])
def yn_La_undo : MethodName := ⟨rn_La, "undo", "(LReversalDesk;I[J)I"⟩
abbrev mt_La_undo : mm_M := (yn_La_undo, cd_La_undo, 4, (some .int), [(0, 16, 19, 19)])
def yn_De_undo : MethodName := ⟨rn_De, "undo", "(I)Z"⟩
abbrev mt_De_undo : mm_M := (yn_De_undo, cd_De_undo, 2, (some .boolean), [])
def yn_Sl_turnBack : MethodName := ⟨rn_Sl, "turnBack", "()Z"⟩
abbrev mt_Sl_turnBack : mm_M := (yn_Sl_turnBack, cd_Sl_turnBack, 1, (some .boolean), [])
def yn_La_distance : MethodName := ⟨rn_La, "distance", "(LReversalDesk;II[J)I"⟩
abbrev mt_La_distance : mm_M := (yn_La_distance, cd_La_distance, 5, (some .int), [(0, 10, 13, 19)])
def yn_De_distance : MethodName := ⟨rn_De, "distance", "(II)I"⟩
abbrev mt_De_distance : mm_M := (yn_De_distance, cd_De_distance, 3, (some .int), [])
def yn_De_drawSlots : MethodName := ⟨rn_De, "drawSlots", "(II)V"⟩
abbrev mt_De_drawSlots : mm_M := (yn_De_drawSlots, cd_De_drawSlots, 3, none, [])
def yn_De_relate : MethodName := ⟨rn_De, "relate", "([I[I)V"⟩
abbrev mt_De_relate : mm_M := (yn_De_relate, cd_De_relate, 5, none, [])
def yn_Dr_draw : MethodName := ⟨rn_Dr, "draw", "([II)V"⟩
abbrev mt_Dr_draw : mm_M := (yn_Dr_draw, cd_Dr_draw, 5, none, [])
def yn_Dr_putEnd : MethodName := ⟨rn_Dr, "putEnd", "(II)V"⟩
abbrev mt_Dr_putEnd : mm_M := (yn_Dr_putEnd, cd_Dr_putEnd, 3, none, [])
def yn_Dr_joinParts : MethodName := ⟨rn_Dr, "joinParts", "()V"⟩
abbrev mt_Dr_joinParts : mm_M := (yn_Dr_joinParts, cd_Dr_joinParts, 3, none, [])
def yn_Dr_isCrossing : MethodName := ⟨rn_Dr, "isCrossing", "(II)Z"⟩
abbrev mt_Dr_isCrossing : mm_M := (yn_Dr_isCrossing, cd_Dr_isCrossing, 3, (some .boolean), [])
def yn_Dr_isWithin : MethodName := ⟨rn_Dr, "isWithin", "(II)Z"⟩
abbrev mt_Dr_isWithin : mm_M := (yn_Dr_isWithin, cd_Dr_isWithin, 3, (some .boolean), [])
def yn_Dr_unite : MethodName := ⟨rn_Dr, "unite", "(II)V"⟩
abbrev mt_Dr_unite : mm_M := (yn_Dr_unite, cd_Dr_unite, 6, none, [])
def yn_Dr_markBadParts : MethodName := ⟨rn_Dr, "markBadParts", "()V"⟩
abbrev mt_Dr_markBadParts : mm_M := (yn_Dr_markBadParts, cd_Dr_markBadParts, 2, none, [])
def yn_Dr_isShort : MethodName := ⟨rn_Dr, "isShort", "(I)Z"⟩
abbrev mt_Dr_isShort : mm_M := (yn_Dr_isShort, cd_Dr_isShort, 2, (some .boolean), [])
def yn_Dr_isOriented : MethodName := ⟨rn_Dr, "isOriented", "(I)Z"⟩
abbrev mt_Dr_isOriented : mm_M := (yn_Dr_isOriented, cd_Dr_isOriented, 2, (some .boolean), [])
def yn_Dr_fewestReversals : MethodName := ⟨rn_Dr, "fewestReversals", "()I"⟩
abbrev mt_Dr_fewestReversals : mm_M := (yn_Dr_fewestReversals, cd_Dr_fewestReversals, 1, (some .int), [])
def yn_Dr_countCycles : MethodName := ⟨rn_Dr, "countCycles", "()I"⟩
abbrev mt_Dr_countCycles : mm_M := (yn_Dr_countCycles, cd_Dr_countCycles, 3, (some .int), [])
def yn_Dr_walkCycle : MethodName := ⟨rn_Dr, "walkCycle", "(I)V"⟩
abbrev mt_Dr_walkCycle : mm_M := (yn_Dr_walkCycle, cd_Dr_walkCycle, 5, none, [])
def yn_Dr_countHurdles : MethodName := ⟨rn_Dr, "countHurdles", "()I"⟩
abbrev mt_Dr_countHurdles : mm_M := (yn_Dr_countHurdles, cd_Dr_countHurdles, 4, (some .int), [])
def yn_Dr_writeBadAround : MethodName := ⟨rn_Dr, "writeBadAround", "()I"⟩
abbrev mt_Dr_writeBadAround : mm_M := (yn_Dr_writeBadAround, cd_Dr_writeBadAround, 4, (some .int), [])
def yn_Dr_countRunEnds : MethodName := ⟨rn_Dr, "countRunEnds", "(II)I"⟩
abbrev mt_Dr_countRunEnds : mm_M := (yn_Dr_countRunEnds, cd_Dr_countRunEnds, 6, (some .int), [])
def yn_La_drawing : MethodName := ⟨rn_La, "drawing", "(LReversalDesk;III[J)I"⟩
abbrev mt_La_drawing : mm_M := (yn_La_drawing, cd_La_drawing, 6, (some .int), [(0, 12, 15, 19), (0, 12, 19, 13)])
def yn_De_drawing : MethodName := ⟨rn_De, "drawing", "(III)I"⟩
abbrev mt_De_drawing : mm_M := (yn_De_drawing, cd_De_drawing, 4, (some .int), [])
def yn_Dr_countParts : MethodName := ⟨rn_Dr, "countParts", "()I"⟩
abbrev mt_Dr_countParts : mm_M := (yn_Dr_countParts, cd_Dr_countParts, 3, (some .int), [])
def yn_Dr_countBadParts : MethodName := ⟨rn_Dr, "countBadParts", "()I"⟩
abbrev mt_Dr_countBadParts : mm_M := (yn_Dr_countBadParts, cd_Dr_countBadParts, 3, (some .int), [])
def yn_Dr_countOriented : MethodName := ⟨rn_Dr, "countOriented", "()I"⟩
abbrev mt_Dr_countOriented : mm_M := (yn_Dr_countOriented, cd_Dr_countOriented, 3, (some .int), [])
def yn_Dr_countBreakpoints : MethodName := ⟨rn_Dr, "countBreakpoints", "()I"⟩
abbrev mt_Dr_countBreakpoints : mm_M := (yn_Dr_countBreakpoints, cd_Dr_countBreakpoints, 3, (some .int), [])
def yn_La_line : MethodName := ⟨rn_La, "line", "(LReversalDesk;III[J)I"⟩
abbrev mt_La_line : mm_M := (yn_La_line, cd_La_line, 6, (some .int), [(0, 12, 15, 19), (0, 12, 19, 13)])
def yn_De_line : MethodName := ⟨rn_De, "line", "(III)I"⟩
abbrev mt_De_line : mm_M := (yn_De_line, cd_De_line, 4, (some .int), [])
def yn_La_interval : MethodName := ⟨rn_La, "interval", "(LReversalDesk;III[J)I"⟩
abbrev mt_La_interval : mm_M := (yn_La_interval, cd_La_interval, 6, (some .int), [(0, 12, 15, 19)])
def yn_De_interval : MethodName := ⟨rn_De, "interval", "(III)I"⟩
abbrev mt_De_interval : mm_M := (yn_De_interval, cd_De_interval, 10, (some .int), [])
def yn_La_scenario : MethodName := ⟨rn_La, "scenario", "(LReversalDesk;II[J)I"⟩
abbrev mt_La_scenario : mm_M := (yn_La_scenario, cd_La_scenario, 5, (some .int), [(0, 10, 13, 19)])
def yn_De_scenario : MethodName := ⟨rn_De, "scenario", "(II)I"⟩
abbrev mt_De_scenario : mm_M := (yn_De_scenario, cd_De_scenario, 5, (some .int), [])
def yn_De_turnNearer : MethodName := ⟨rn_De, "turnNearer", "(I)I"⟩
abbrev mt_De_turnNearer : mm_M := (yn_De_turnNearer, cd_De_turnNearer, 4, (some .int), [])
def yn_La_step : MethodName := ⟨rn_La, "step", "(LReversalDesk;I[J)I"⟩
abbrev mt_La_step : mm_M := (yn_La_step, cd_La_step, 4, (some .int), [(0, 9, 12, 56), (0, 9, 15, 13)])
def yn_De_step : MethodName := ⟨rn_De, "step", "(I)I"⟩
abbrev mt_De_step : mm_M := (yn_De_step, cd_De_step, 2, (some .int), [])
def yn_La_ways : MethodName := ⟨rn_La, "ways", "(LReversalDesk;II[J)I"⟩
abbrev mt_La_ways : mm_M := (yn_La_ways, cd_La_ways, 5, (some .int), [(0, 9, 12, 19), (0, 9, 16, 62)])
def yn_De_ways : MethodName := ⟨rn_De, "ways", "(II)J"⟩
abbrev mt_De_ways : mm_M := (yn_De_ways, cd_De_ways, 4, (some .long), [])
def yn_De_chartNow : MethodName := ⟨rn_De, "chartNow", "()LReversalDesk$Chart;"⟩
abbrev mt_De_chartNow : mm_M := (yn_De_chartNow, cd_De_chartNow, 1, (some (.object "ReversalDesk$Chart")), [])
def yn_Ch_init : MethodName := ⟨rn_Ch, "<init>", "(I)V"⟩
abbrev mt_Ch_init : mm_M := (yn_Ch_init, cd_Ch_init, 4, none, [])
def yn_Ch_measure : MethodName := ⟨rn_Ch, "measure", "(LReversalDesk$Drawing;)V"⟩
abbrev mt_Ch_measure : mm_M := (yn_Ch_measure, cd_Ch_measure, 3, none, [])
def yn_Ch_layOut : MethodName := ⟨rn_Ch, "layOut", "(I[I)V"⟩
abbrev mt_Ch_layOut : mm_M := (yn_Ch_layOut, cd_Ch_layOut, 7, none, [])
def yn_Ch_makeRoom : MethodName := ⟨rn_Ch, "makeRoom", "([II)V"⟩
abbrev mt_Ch_makeRoom : mm_M := (yn_Ch_makeRoom, cd_Ch_makeRoom, 4, none, [])
def yn_Ch_waysToPlain : MethodName := ⟨rn_Ch, "waysToPlain", "([I)J"⟩
abbrev mt_Ch_waysToPlain : mm_M := (yn_Ch_waysToPlain, cd_Ch_waysToPlain, 3, (some .long), [])
def yn_Ch_indexOf : MethodName := ⟨rn_Ch, "indexOf", "([I)I"⟩
abbrev mt_Ch_indexOf : mm_M := (yn_Ch_indexOf, cd_Ch_indexOf, 7, (some .int), [])
def yn_Ch_waysOfWalked : MethodName := ⟨rn_Ch, "waysOfWalked", "(II)J"⟩
abbrev mt_Ch_waysOfWalked : mm_M := (yn_Ch_waysOfWalked, cd_Ch_waysOfWalked, 8, (some .long), [])
def yn_La_circle : MethodName := ⟨rn_La, "circle", "(LReversalDesk;II[J)I"⟩
abbrev mt_La_circle : mm_M := (yn_La_circle, cd_La_circle, 5, (some .int), [(0, 10, 13, 19), (0, 10, 17, 62)])
def yn_De_circle : MethodName := ⟨rn_De, "circle", "(II)I"⟩
abbrev mt_De_circle : mm_M := (yn_De_circle, cd_De_circle, 3, (some .int), [])
def yn_Ch_countAt : MethodName := ⟨rn_Ch, "countAt", "(I)I"⟩
abbrev mt_Ch_countAt : mm_M := (yn_Ch_countAt, cd_Ch_countAt, 4, (some .int), [])
def yn_La_median : MethodName := ⟨rn_La, "median", "(LReversalDesk;III[J)I"⟩
abbrev mt_La_median : mm_M := (yn_La_median, cd_La_median, 6, (some .int), [(0, 12, 15, 19), (0, 12, 19, 62)])
def yn_De_median : MethodName := ⟨rn_De, "median", "(III)I"⟩
abbrev mt_De_median : mm_M := (yn_De_median, cd_De_median, 9, (some .int), [])
def yn_De_triedTo : MethodName := ⟨rn_De, "triedTo", "(ILReversalDesk$Chart;)I"⟩
abbrev mt_De_triedTo : mm_M := (yn_De_triedTo, cd_De_triedTo, 3, (some .int), [])
def yn_Mo_init : MethodName := ⟨rn_Mo, "<init>", "()V"⟩
abbrev mt_Mo_init : mm_M := (yn_Mo_init, cd_Mo_init, 1, none, [])
def yn_Mo_clear : MethodName := ⟨rn_Mo, "clear", "()V"⟩
abbrev mt_Mo_clear : mm_M := (yn_Mo_clear, cd_Mo_clear, 3, none, [])
def yn_Mo_thrown : MethodName := ⟨rn_Mo, "thrown", "()I"⟩
abbrev mt_Mo_thrown : mm_M := (yn_Mo_thrown, cd_Mo_thrown, 1, (some .int), [])
def yn_Mo_genes : MethodName := ⟨rn_Mo, "genes", "(I)V"⟩
abbrev mt_Mo_genes : mm_M := (yn_Mo_genes, cd_Mo_genes, 2, none, [])
def yn_Mo_write : MethodName := ⟨rn_Mo, "write", "(J)I"⟩
abbrev mt_Mo_write : mm_M := (yn_Mo_write, cd_Mo_write, 6, (some .int), [])
def yn_Mo_wipe : MethodName := ⟨rn_Mo, "wipe", "()I"⟩
abbrev mt_Mo_wipe : mm_M := (yn_Mo_wipe, cd_Mo_wipe, 2, (some .int), [])
def yn_Mo_read : MethodName := ⟨rn_Mo, "read", "(I)I"⟩
abbrev mt_Mo_read : mm_M := (yn_Mo_read, cd_Mo_read, 8, (some .int), [])
def yn_Mo_noSlot : MethodName := ⟨rn_Mo, "noSlot", "(I)Z"⟩
abbrev mt_Mo_noSlot : mm_M := (yn_Mo_noSlot, cd_Mo_noSlot, 1, (some .boolean), [])
def yn_Mo_gene : MethodName := ⟨rn_Mo, "gene", "(II)I"⟩
abbrev mt_Mo_gene : mm_M := (yn_Mo_gene, cd_Mo_gene, 3, (some .int), [])
def yn_Mo_copy : MethodName := ⟨rn_Mo, "copy", "(II)V"⟩
abbrev mt_Mo_copy : mm_M := (yn_Mo_copy, cd_Mo_copy, 4, none, [])
def yn_Mo_reverse : MethodName := ⟨rn_Mo, "reverse", "(III)V"⟩
abbrev mt_Mo_reverse : mm_M := (yn_Mo_reverse, cd_Mo_reverse, 5, none, [])
def yn_Mo_turn : MethodName := ⟨rn_Mo, "turn", "([IIII)V"⟩
abbrev mt_Mo_turn : mm_M := (yn_Mo_turn, cd_Mo_turn, 8, none, [])
def yn_Mo_undo : MethodName := ⟨rn_Mo, "undo", "(I)Z"⟩
abbrev mt_Mo_undo : mm_M := (yn_Mo_undo, cd_Mo_undo, 3, (some .boolean), [])
def yn_Mo_distance : MethodName := ⟨rn_Mo, "distance", "(II)I"⟩
abbrev mt_Mo_distance : mm_M := (yn_Mo_distance, cd_Mo_distance, 3, (some .int), [])
def yn_Mo_distanceOf : MethodName := ⟨rn_Mo, "distanceOf", "([II[II)I"⟩
abbrev mt_Mo_distanceOf : mm_M := (yn_Mo_distanceOf, cd_Mo_distanceOf, 5, (some .int), [])
def yn_Mo_makeTable : MethodName := ⟨rn_Mo, "makeTable", "()V"⟩
abbrev mt_Mo_makeTable : mm_M := (yn_Mo_makeTable, cd_Mo_makeTable, 3, none, [])
def yn_Mo_orderCount : MethodName := ⟨rn_Mo, "orderCount", "()I"⟩
abbrev mt_Mo_orderCount : mm_M := (yn_Mo_orderCount, cd_Mo_orderCount, 3, (some .int), [])
def yn_Mo_spread : MethodName := ⟨rn_Mo, "spread", "(I)V"⟩
abbrev mt_Mo_spread : mm_M := (yn_Mo_spread, cd_Mo_spread, 6, none, [])
def yn_Mo_unrank : MethodName := ⟨rn_Mo, "unrank", "(I[I)V"⟩
abbrev mt_Mo_unrank : mm_M := (yn_Mo_unrank, cd_Mo_unrank, 9, none, [])
def yn_Mo_rankOf : MethodName := ⟨rn_Mo, "rankOf", "([I)I"⟩
abbrev mt_Mo_rankOf : mm_M := (yn_Mo_rankOf, cd_Mo_rankOf, 9, (some .int), [])
def yn_Mo_relate : MethodName := ⟨rn_Mo, "relate", "([II[II)V"⟩
abbrev mt_Mo_relate : mm_M := (yn_Mo_relate, cd_Mo_relate, 9, none, [])
def yn_Mo_drawing : MethodName := ⟨rn_Mo, "drawing", "(III)I"⟩
abbrev mt_Mo_drawing : mm_M := (yn_Mo_drawing, cd_Mo_drawing, 7, (some .int), [])
def yn_Mo_draw : MethodName := ⟨rn_Mo, "draw", "(II)V"⟩
abbrev mt_Mo_draw : mm_M := (yn_Mo_draw, cd_Mo_draw, 5, none, [])
def yn_Mo_findParts : MethodName := ⟨rn_Mo, "findParts", "()I"⟩
abbrev mt_Mo_findParts : mm_M := (yn_Mo_findParts, cd_Mo_findParts, 6, (some .int), [])
def yn_Mo_isBetween : MethodName := ⟨rn_Mo, "isBetween", "(II)Z"⟩
abbrev mt_Mo_isBetween : mm_M := (yn_Mo_isBetween, cd_Mo_isBetween, 3, (some .boolean), [])
def yn_Mo_low : MethodName := ⟨rn_Mo, "low", "(I)I"⟩
abbrev mt_Mo_low : mm_M := (yn_Mo_low, cd_Mo_low, 2, (some .int), [])
def yn_Mo_high : MethodName := ⟨rn_Mo, "high", "(I)I"⟩
abbrev mt_Mo_high : mm_M := (yn_Mo_high, cd_Mo_high, 2, (some .int), [])
def yn_Mo_isOriented : MethodName := ⟨rn_Mo, "isOriented", "(I)Z"⟩
abbrev mt_Mo_isOriented : mm_M := (yn_Mo_isOriented, cd_Mo_isOriented, 2, (some .boolean), [])
def yn_Mo_cycles : MethodName := ⟨rn_Mo, "cycles", "()I"⟩
abbrev mt_Mo_cycles : mm_M := (yn_Mo_cycles, cd_Mo_cycles, 5, (some .int), [])
def yn_Mo_hurdles : MethodName := ⟨rn_Mo, "hurdles", "()I"⟩
abbrev mt_Mo_hurdles : mm_M := (yn_Mo_hurdles, cd_Mo_hurdles, 6, (some .int), [])
def yn_Mo_breakpoints : MethodName := ⟨rn_Mo, "breakpoints", "()I"⟩
abbrev mt_Mo_breakpoints : mm_M := (yn_Mo_breakpoints, cd_Mo_breakpoints, 5, (some .int), [])
def yn_Mo_line : MethodName := ⟨rn_Mo, "line", "(III)I"⟩
abbrev mt_Mo_line : mm_M := (yn_Mo_line, cd_Mo_line, 4, (some .int), [])
def yn_Mo_interval : MethodName := ⟨rn_Mo, "interval", "(III)I"⟩
abbrev mt_Mo_interval : mm_M := (yn_Mo_interval, cd_Mo_interval, 11, (some .int), [])
def yn_Mo_scenario : MethodName := ⟨rn_Mo, "scenario", "(II)I"⟩
abbrev mt_Mo_scenario : mm_M := (yn_Mo_scenario, cd_Mo_scenario, 6, (some .int), [])
def yn_Mo_step : MethodName := ⟨rn_Mo, "step", "(I)I"⟩
abbrev mt_Mo_step : mm_M := (yn_Mo_step, cd_Mo_step, 2, (some .int), [])
def yn_Mo_ways : MethodName := ⟨rn_Mo, "ways", "(II)J"⟩
abbrev mt_Mo_ways : mm_M := (yn_Mo_ways, cd_Mo_ways, 3, (some .long), [])
def yn_Mo_circle : MethodName := ⟨rn_Mo, "circle", "(II)I"⟩
abbrev mt_Mo_circle : mm_M := (yn_Mo_circle, cd_Mo_circle, 5, (some .int), [])
def yn_Mo_median : MethodName := ⟨rn_Mo, "median", "(III)I"⟩
abbrev mt_Mo_median : mm_M := (yn_Mo_median, cd_Mo_median, 8, (some .int), [])
def yn_Mo_isLess : MethodName := ⟨rn_Mo, "isLess", "([I[III)Z"⟩
abbrev mt_Mo_isLess : mm_M := (yn_Mo_isLess, cd_Mo_isLess, 5, (some .boolean), [])
/-! WORDS: those that the tables decide and a warming keeps; and those of nest mates and arrays of references -/
def mm_aw : List Cond := lw_tbl.filter goodWord
theorem mm_good : ∀ w ∈ mm_aw, (w.onTables && w.keeps) = true ∨ ∃ ty, w = .arrayClass ty := fun w hw => good_of_word (List.mem_filter.mp hw).2
def mm_nl : List (String × Nat × MethodName × String) := [(rn_De, 22, yn_Te_init, rn_De), (rn_De, 29, yn_Dr_init, rn_De), (rn_Sl, 34, yn_De_turn, rn_De), (rn_Ch, 66, yn_De_turn, rn_De)]
def mm_ao : List String := ["ReversalDesk$Slot", "ReversalDesk$Chart"]
def mm_en : Nat → String := fun k => match k with
  | 0 => "java/lang/IllegalArgumentException"
  | 1 => "java/lang/IndexOutOfBoundsException"
  | 2 => "java/lang/IllegalStateException"
  | _ => "java/lang/UnsupportedOperationException"
def mm_xn : List String := ["java/lang/RuntimeException", "java/lang/Exception"]
def mm_ca : List (String × String) := [("java/lang/IllegalArgumentException", "java/lang/IllegalArgumentException"), ("java/lang/IndexOutOfBoundsException", "java/lang/IndexOutOfBoundsException"), ("java/lang/IllegalStateException", "java/lang/IllegalStateException"), ("java/lang/UnsupportedOperationException", "java/lang/UnsupportedOperationException")]
def mm_dl : List MethodName := [⟨"java/lang/RuntimeException", "<init>", "()V"⟩, ⟨"java/lang/RuntimeException", "<init>", "(Ljava/lang/String;)V"⟩, ⟨"java/lang/Exception", "<init>", "()V"⟩, ⟨"java/lang/Exception", "<init>", "(Ljava/lang/String;)V"⟩, ⟨"java/lang/Throwable", "<init>", "()V"⟩, ⟨"java/lang/Throwable", "<init>", "(Ljava/lang/String;)V"⟩]
def mm_sr : List (String × Nat × String) := [("ReversalDesk", 58, "genes are 1 to 6"), ("ReversalDesk", 193, "slots are 0 to 4"), ("ReversalDesk", 88, "no such place"), ("ReversalDesk", 98, "no such places"), ("ReversalDesk", 113, "what is 0 to 5"), ("ReversalDesk", 133, "no such gray line"), ("ReversalDesk", 163, "no scenario"), ("ReversalDesk", 166, "no such reversal"), ("ReversalDesk", 205, "not with 5 or 6 genes")]
def mm_nc : List (String × String) := [("java/lang/IllegalArgumentException", "java/lang/IndexOutOfBoundsException"), ("java/lang/IllegalArgumentException", "java/lang/IllegalStateException"), ("java/lang/IllegalArgumentException", "java/lang/UnsupportedOperationException"), ("java/lang/IndexOutOfBoundsException", "java/lang/IllegalArgumentException"), ("java/lang/IndexOutOfBoundsException", "java/lang/IllegalStateException"), ("java/lang/IndexOutOfBoundsException", "java/lang/UnsupportedOperationException"), ("java/lang/IllegalStateException", "java/lang/IllegalArgumentException"), ("java/lang/IllegalStateException", "java/lang/IndexOutOfBoundsException"), ("java/lang/IllegalStateException", "java/lang/UnsupportedOperationException"), ("java/lang/UnsupportedOperationException", "java/lang/IllegalArgumentException"), ("java/lang/UnsupportedOperationException", "java/lang/IndexOutOfBoundsException"), ("java/lang/UnsupportedOperationException", "java/lang/IllegalStateException")]
def mm_nw : List Cond := mm_nl.map (fun q => Cond.methodLinkNest q.1 q.2.1 q.2.2.1 q.2.2.2) ++ (mm_ao.map (fun C => Cond.arrayOver (.object C)) ++ (mm_ca.map (fun q => Cond.castable q.1 q.2) ++ mm_dl.map (fun y => Cond.declares y)))
theorem mm_nw_same (w : Cond) (hw : w ∈ mm_nw) {u U : State} (e : u.vm = U.vm) (h : va_Nw w u) : va_Nw w U := by
  rcases List.mem_append.mp hw with hw | hw
  · obtain ⟨q, -, rfl⟩ := List.mem_map.mp hw
    exact va_Nw.same rfl e h
  rcases List.mem_append.mp hw with hw | hw
  · obtain ⟨C, -, rfl⟩ := List.mem_map.mp hw
    exact va_AO.moved (by rw [e]; exact Vm.Alike.refl _) h
  rcases List.mem_append.mp hw with hw | hw
  · obtain ⟨q, -, rfl⟩ := List.mem_map.mp hw
    exact va_Nw.same rfl e h
  · obtain ⟨q, -, rfl⟩ := List.mem_map.mp hw
    exact va_Nw.same rfl e h
theorem mm_nw_warm (w : Cond) (hw : w ∈ mm_nw) {s U : State} (e : s.WarmedH U.vm) (h : va_Nw w s) : va_Nw w U := by
  rcases List.mem_append.mp hw with hw | hw
  · obtain ⟨q, -, rfl⟩ := List.mem_map.mp hw
    exact va_Nw.warmM e h
  rcases List.mem_append.mp hw with hw | hw
  · obtain ⟨C, -, rfl⟩ := List.mem_map.mp hw
    exact va_AO.moved e.alike h
  rcases List.mem_append.mp hw with hw | hw
  · obtain ⟨q, -, rfl⟩ := List.mem_map.mp hw
    exact va_Nw.warmC e h
  · obtain ⟨q, -, rfl⟩ := List.mem_map.mp hw
    exact va_Nw.warmD e h
theorem mm_nw_use (w : Cond) (hw : w ∈ mm_nw) {A : Array Value} {U : State} (h : va_Nw w U) : w.before A U = true := by
  rcases List.mem_append.mp hw with hw | hw
  · obtain ⟨q, -, rfl⟩ := List.mem_map.mp hw
    exact va_Nw.use rfl h
  rcases List.mem_append.mp hw with hw | hw
  · obtain ⟨C, -, rfl⟩ := List.mem_map.mp hw
    exact va_AO.use h
  rcases List.mem_append.mp hw with hw | hw
  · obtain ⟨q, -, rfl⟩ := List.mem_map.mp hw
    exact va_Nw.use rfl h
  · obtain ⟨q, -, rfl⟩ := List.mem_map.mp hw
    exact va_Nw.use rfl h
/-- the facts that no list of good words holds -/
def mm_N (U : State) : Prop := (∀ w ∈ mm_nw, va_Nw w U) ∧ (∀ q ∈ mm_sr, ∃ a, vk_R q.1 q.2.1 q.2.2 a U) ∧ ∀ q ∈ mm_nc, va_Nc q.1 q.2 U
theorem mm_N_same {u U : State} (e : u.vm = U.vm) (h : mm_N u) : mm_N U :=
  ⟨fun w hw => mm_nw_same w hw e (h.1 w hw), fun q hq => by obtain ⟨a, ha⟩ := h.2.1 q hq; exact ⟨a, ha.same e.symm⟩, fun q hq => (h.2.2 q hq).moved (by rw [e]; exact Vm.Alike.refl _)⟩
theorem mm_N_warm {s U : State} (e : s.WarmedH U.vm) (h : mm_N s) : mm_N U :=
  ⟨fun w hw => mm_nw_warm w hw e (h.1 w hw), fun q hq => by obtain ⟨a, ha⟩ := h.2.1 q hq; exact ⟨a, ha.warm e⟩, fun q hq => (h.2.2 q hq).moved e.alike⟩
theorem mm_in {w : Cond} (h : w ∈ lw_tbl) (hg : goodWord w = true) : w ∈ mm_aw := List.mem_filter.mpr ⟨h, hg⟩
theorem wi_De : ∀ w ∈ u_ws rn_De tb_De 10, w ∈ mm_aw := List.forall_mem_cons.mpr ⟨mm_in (List.mem_of_getElem? (i := 154) (by decide +kernel)) (by decide +kernel), List.forall_mem_cons.mpr ⟨mm_in (List.mem_of_getElem? (i := 156) (by decide +kernel)) (by decide +kernel), List.forall_mem_cons.mpr ⟨mm_in (List.mem_of_getElem? (i := 158) (by decide +kernel)) (by decide +kernel), List.forall_mem_cons.mpr ⟨mm_in (List.mem_of_getElem? (i := 160) (by decide +kernel)) (by decide +kernel), List.forall_mem_cons.mpr ⟨mm_in (List.mem_of_getElem? (i := 162) (by decide +kernel)) (by decide +kernel), List.forall_mem_cons.mpr ⟨mm_in (List.mem_of_getElem? (i := 164) (by decide +kernel)) (by decide +kernel), List.forall_mem_cons.mpr ⟨mm_in (List.mem_of_getElem? (i := 166) (by decide +kernel)) (by decide +kernel), List.forall_mem_cons.mpr ⟨mm_in (List.mem_of_getElem? (i := 168) (by decide +kernel)) (by decide +kernel), List.forall_mem_cons.mpr ⟨mm_in (List.mem_of_getElem? (i := 170) (by decide +kernel)) (by decide +kernel), List.forall_mem_cons.mpr ⟨mm_in (List.mem_of_getElem? (i := 172) (by decide +kernel)) (by decide +kernel), fun _ h => absurd h List.not_mem_nil⟩⟩⟩⟩⟩⟩⟩⟩⟩⟩
theorem wi_Sl : ∀ w ∈ u_ws rn_Sl tb_Sl 4, w ∈ mm_aw := List.forall_mem_cons.mpr ⟨mm_in (List.mem_of_getElem? (i := 76) (by decide +kernel)) (by decide +kernel), List.forall_mem_cons.mpr ⟨mm_in (List.mem_of_getElem? (i := 78) (by decide +kernel)) (by decide +kernel), List.forall_mem_cons.mpr ⟨mm_in (List.mem_of_getElem? (i := 80) (by decide +kernel)) (by decide +kernel), List.forall_mem_cons.mpr ⟨mm_in (List.mem_of_getElem? (i := 82) (by decide +kernel)) (by decide +kernel), fun _ h => absurd h List.not_mem_nil⟩⟩⟩⟩
theorem wi_Te : ∀ w ∈ u_ws rn_Te tb_Te 2, w ∈ mm_aw := List.forall_mem_cons.mpr ⟨mm_in (List.mem_of_getElem? (i := 94) (by decide +kernel)) (by decide +kernel), List.forall_mem_cons.mpr ⟨mm_in (List.mem_of_getElem? (i := 96) (by decide +kernel)) (by decide +kernel), fun _ h => absurd h List.not_mem_nil⟩⟩
theorem wi_Dr : ∀ w ∈ u_ws rn_Dr tb_Dr 11, w ∈ mm_aw := List.forall_mem_cons.mpr ⟨mm_in (List.mem_of_getElem? (i := 118) (by decide +kernel)) (by decide +kernel), List.forall_mem_cons.mpr ⟨mm_in (List.mem_of_getElem? (i := 120) (by decide +kernel)) (by decide +kernel), List.forall_mem_cons.mpr ⟨mm_in (List.mem_of_getElem? (i := 122) (by decide +kernel)) (by decide +kernel), List.forall_mem_cons.mpr ⟨mm_in (List.mem_of_getElem? (i := 124) (by decide +kernel)) (by decide +kernel), List.forall_mem_cons.mpr ⟨mm_in (List.mem_of_getElem? (i := 126) (by decide +kernel)) (by decide +kernel), List.forall_mem_cons.mpr ⟨mm_in (List.mem_of_getElem? (i := 128) (by decide +kernel)) (by decide +kernel), List.forall_mem_cons.mpr ⟨mm_in (List.mem_of_getElem? (i := 130) (by decide +kernel)) (by decide +kernel), List.forall_mem_cons.mpr ⟨mm_in (List.mem_of_getElem? (i := 132) (by decide +kernel)) (by decide +kernel), List.forall_mem_cons.mpr ⟨mm_in (List.mem_of_getElem? (i := 134) (by decide +kernel)) (by decide +kernel), List.forall_mem_cons.mpr ⟨mm_in (List.mem_of_getElem? (i := 136) (by decide +kernel)) (by decide +kernel), List.forall_mem_cons.mpr ⟨mm_in (List.mem_of_getElem? (i := 138) (by decide +kernel)) (by decide +kernel), fun _ h => absurd h List.not_mem_nil⟩⟩⟩⟩⟩⟩⟩⟩⟩⟩⟩
theorem wi_Ch : ∀ w ∈ u_ws rn_Ch tb_Ch 5, w ∈ mm_aw := List.forall_mem_cons.mpr ⟨mm_in (List.mem_of_getElem? (i := 558) (by decide +kernel)) (by decide +kernel), List.forall_mem_cons.mpr ⟨mm_in (List.mem_of_getElem? (i := 560) (by decide +kernel)) (by decide +kernel), List.forall_mem_cons.mpr ⟨mm_in (List.mem_of_getElem? (i := 562) (by decide +kernel)) (by decide +kernel), List.forall_mem_cons.mpr ⟨mm_in (List.mem_of_getElem? (i := 564) (by decide +kernel)) (by decide +kernel), List.forall_mem_cons.mpr ⟨mm_in (List.mem_of_getElem? (i := 566) (by decide +kernel)) (by decide +kernel), fun _ h => absurd h List.not_mem_nil⟩⟩⟩⟩⟩
theorem wi_Mo : ∀ w ∈ u_ws rn_Mo tb_Mo 25, w ∈ mm_aw := List.forall_mem_cons.mpr ⟨mm_in (List.mem_of_getElem? (i := 661) (by decide +kernel)) (by decide +kernel), List.forall_mem_cons.mpr ⟨mm_in (List.mem_of_getElem? (i := 663) (by decide +kernel)) (by decide +kernel), List.forall_mem_cons.mpr ⟨mm_in (List.mem_of_getElem? (i := 665) (by decide +kernel)) (by decide +kernel), List.forall_mem_cons.mpr ⟨mm_in (List.mem_of_getElem? (i := 667) (by decide +kernel)) (by decide +kernel), List.forall_mem_cons.mpr ⟨mm_in (List.mem_of_getElem? (i := 669) (by decide +kernel)) (by decide +kernel), List.forall_mem_cons.mpr ⟨mm_in (List.mem_of_getElem? (i := 671) (by decide +kernel)) (by decide +kernel), List.forall_mem_cons.mpr ⟨mm_in (List.mem_of_getElem? (i := 673) (by decide +kernel)) (by decide +kernel), List.forall_mem_cons.mpr ⟨mm_in (List.mem_of_getElem? (i := 675) (by decide +kernel)) (by decide +kernel), List.forall_mem_cons.mpr ⟨mm_in (List.mem_of_getElem? (i := 677) (by decide +kernel)) (by decide +kernel), List.forall_mem_cons.mpr ⟨mm_in (List.mem_of_getElem? (i := 679) (by decide +kernel)) (by decide +kernel), List.forall_mem_cons.mpr ⟨mm_in (List.mem_of_getElem? (i := 681) (by decide +kernel)) (by decide +kernel), List.forall_mem_cons.mpr ⟨mm_in (List.mem_of_getElem? (i := 683) (by decide +kernel)) (by decide +kernel), List.forall_mem_cons.mpr ⟨mm_in (List.mem_of_getElem? (i := 685) (by decide +kernel)) (by decide +kernel), List.forall_mem_cons.mpr ⟨mm_in (List.mem_of_getElem? (i := 687) (by decide +kernel)) (by decide +kernel), List.forall_mem_cons.mpr ⟨mm_in (List.mem_of_getElem? (i := 689) (by decide +kernel)) (by decide +kernel), List.forall_mem_cons.mpr ⟨mm_in (List.mem_of_getElem? (i := 691) (by decide +kernel)) (by decide +kernel), List.forall_mem_cons.mpr ⟨mm_in (List.mem_of_getElem? (i := 693) (by decide +kernel)) (by decide +kernel), List.forall_mem_cons.mpr ⟨mm_in (List.mem_of_getElem? (i := 695) (by decide +kernel)) (by decide +kernel), List.forall_mem_cons.mpr ⟨mm_in (List.mem_of_getElem? (i := 697) (by decide +kernel)) (by decide +kernel), List.forall_mem_cons.mpr ⟨mm_in (List.mem_of_getElem? (i := 699) (by decide +kernel)) (by decide +kernel), List.forall_mem_cons.mpr ⟨mm_in (List.mem_of_getElem? (i := 701) (by decide +kernel)) (by decide +kernel), List.forall_mem_cons.mpr ⟨mm_in (List.mem_of_getElem? (i := 703) (by decide +kernel)) (by decide +kernel), List.forall_mem_cons.mpr ⟨mm_in (List.mem_of_getElem? (i := 705) (by decide +kernel)) (by decide +kernel), List.forall_mem_cons.mpr ⟨mm_in (List.mem_of_getElem? (i := 707) (by decide +kernel)) (by decide +kernel), List.forall_mem_cons.mpr ⟨mm_in (List.mem_of_getElem? (i := 709) (by decide +kernel)) (by decide +kernel), fun _ h => absurd h List.not_mem_nil⟩⟩⟩⟩⟩⟩⟩⟩⟩⟩⟩⟩⟩⟩⟩⟩⟩⟩⟩⟩⟩⟩⟩⟩⟩
