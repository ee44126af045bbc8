/-! names, fields, layout, links: printed by wip/whole/gen_names.py -/
def zR0 : String := "StyledRuns$Act"
def zF0 : u_T := fun k => match k with
  | 0 => ("StyledRuns$Act", "kind", "I", false)
  | 1 => ("StyledRuns$Act", "a", "I", false)
  | 2 => ("StyledRuns$Act", "b", "I", false)
  | _ => ("StyledRuns$Act", "c", "I", false)
def zt0 : Nat → FieldType := fun k => match k with
  | 0 => .int
  | 1 => .int
  | 2 => .int
  | _ => .int
theorem znm0 : ∀ a, a < 4 → ∀ b, b < 4 → a ≠ b → (zF0 a).2.1 ≠ (zF0 b).2.1 := by decide +kernel
theorem zty0 : ∀ k, k < 4 → parseFieldDescriptor (zF0 k).2.2.1 = some (zt0 k) := by decide +kernel
theorem zin0 : ∀ w ∈ u_ws zR0 zF0 4, w ∈ lw_tbl := by
  intro w hw
  obtain ⟨k, hk, rfl⟩ := List.mem_map.mp hw
  have hk := List.mem_range.mp hk
  refine List.mem_append_right _ (List.mem_of_getElem? (i := ([186, 188, 190, 192] : List Nat).getD k 0) ?_)
  revert k
  decide +kernel
def zR1 : String := "StyledRuns$Anchor"
def zF1 : u_T := fun k => match k with
  | 0 => ("StyledRuns$Anchor", "stands", "Z", false)
  | 1 => ("StyledRuns$Anchor", "place", "I", false)
  | 2 => ("StyledRuns$Anchor", "lean", "I", false)
  | _ => ("StyledRuns$Anchor", "lost", "I", false)
def zt1 : Nat → FieldType := fun k => match k with
  | 0 => .boolean
  | 1 => .int
  | 2 => .int
  | _ => .int
theorem znm1 : ∀ a, a < 4 → ∀ b, b < 4 → a ≠ b → (zF1 a).2.1 ≠ (zF1 b).2.1 := by decide +kernel
theorem zty1 : ∀ k, k < 4 → parseFieldDescriptor (zF1 k).2.2.1 = some (zt1 k) := by decide +kernel
theorem zin1 : ∀ w ∈ u_ws zR1 zF1 4, w ∈ lw_tbl := by
  intro w hw
  obtain ⟨k, hk, rfl⟩ := List.mem_map.mp hw
  have hk := List.mem_range.mp hk
  refine List.mem_append_right _ (List.mem_of_getElem? (i := ([103, 105, 107, 109] : List Nat).getD k 0) ?_)
  revert k
  decide +kernel
def zR2 : String := "StyledRuns$History"
def zF2 : u_T := fun k => match k with
  | 0 => ("StyledRuns$History", "before", "[LStyledRuns$Sheet;", true)
  | 1 => ("StyledRuns$History", "acts", "[LStyledRuns$Act;", true)
  | 2 => ("StyledRuns$History", "next", "I", false)
  | _ => ("StyledRuns$History", "kept", "I", false)
def zt2 : Nat → FieldType := fun k => match k with
  | 0 => .array (.object "StyledRuns$Sheet")
  | 1 => .array (.object "StyledRuns$Act")
  | 2 => .int
  | _ => .int
theorem znm2 : ∀ a, a < 4 → ∀ b, b < 4 → a ≠ b → (zF2 a).2.1 ≠ (zF2 b).2.1 := by decide +kernel
theorem zty2 : ∀ k, k < 4 → parseFieldDescriptor (zF2 k).2.2.1 = some (zt2 k) := by decide +kernel
theorem zin2 : ∀ w ∈ u_ws zR2 zF2 4, w ∈ lw_tbl := by
  intro w hw
  obtain ⟨k, hk, rfl⟩ := List.mem_map.mp hw
  have hk := List.mem_range.mp hk
  refine List.mem_append_right _ (List.mem_of_getElem? (i := ([200, 202, 204, 206] : List Nat).getD k 0) ?_)
  revert k
  decide +kernel
def zR3 : String := "StyledRuns$Looks"
def zF3 : u_T := fun k => match k with
  | 0 => ("StyledRuns$Looks", "styles", "[I", true)
  | _ => ("StyledRuns$Looks", "size", "I", false)
def zt3 : Nat → FieldType := fun k => match k with
  | 0 => .array .int
  | _ => .int
theorem znm3 : ∀ a, a < 2 → ∀ b, b < 2 → a ≠ b → (zF3 a).2.1 ≠ (zF3 b).2.1 := by decide +kernel
theorem zty3 : ∀ k, k < 2 → parseFieldDescriptor (zF3 k).2.2.1 = some (zt3 k) := by decide +kernel
theorem zin3 : ∀ w ∈ u_ws zR3 zF3 2, w ∈ lw_tbl := by
  intro w hw
  obtain ⟨k, hk, rfl⟩ := List.mem_map.mp hw
  have hk := List.mem_range.mp hk
  refine List.mem_append_right _ (List.mem_of_getElem? (i := ([219, 221] : List Nat).getD k 0) ?_)
  revert k
  decide +kernel
def zR4 : String := "StyledRuns$Reader"
def zF4 : u_T := fun k => match k with
  | 0 => ("StyledRuns$Reader", "letters", "[I", true)
  | 1 => ("StyledRuns$Reader", "paints", "[I", true)
  | 2 => ("StyledRuns$Reader", "size", "I", false)
  | 3 => ("StyledRuns$Reader", "faultPlace", "I", false)
  | 4 => ("StyledRuns$Reader", "openKinds", "[I", true)
  | 5 => ("StyledRuns$Reader", "paintInside", "[I", true)
  | _ => ("StyledRuns$Reader", "open", "I", false)
def zt4 : Nat → FieldType := fun k => match k with
  | 0 => .array .int
  | 1 => .array .int
  | 2 => .int
  | 3 => .int
  | 4 => .array .int
  | 5 => .array .int
  | _ => .int
theorem znm4 : ∀ a, a < 7 → ∀ b, b < 7 → a ≠ b → (zF4 a).2.1 ≠ (zF4 b).2.1 := by decide +kernel
theorem zty4 : ∀ k, k < 7 → parseFieldDescriptor (zF4 k).2.2.1 = some (zt4 k) := by decide +kernel
theorem zin4 : ∀ w ∈ u_ws zR4 zF4 7, w ∈ lw_tbl := by
  intro w hw
  obtain ⟨k, hk, rfl⟩ := List.mem_map.mp hw
  have hk := List.mem_range.mp hk
  refine List.mem_append_right _ (List.mem_of_getElem? (i := ([242, 244, 246, 248, 250, 252, 254] : List Nat).getD k 0) ?_)
  revert k
  decide +kernel
def zR5 : String := "StyledRuns$Sheet"
def zF5 : u_T := fun k => match k with
  | 0 => ("StyledRuns$Sheet", "letters", "[I", true)
  | 1 => ("StyledRuns$Sheet", "paints", "[I", true)
  | 2 => ("StyledRuns$Sheet", "size", "I", false)
  | 3 => ("StyledRuns$Sheet", "spans", "[LStyledRuns$Span;", true)
  | 4 => ("StyledRuns$Sheet", "spansGiven", "I", false)
  | 5 => ("StyledRuns$Sheet", "anchors", "[LStyledRuns$Anchor;", true)
  | _ => ("StyledRuns$Sheet", "anchorsGiven", "I", false)
def zt5 : Nat → FieldType := fun k => match k with
  | 0 => .array .int
  | 1 => .array .int
  | 2 => .int
  | 3 => .array (.object "StyledRuns$Span")
  | 4 => .int
  | 5 => .array (.object "StyledRuns$Anchor")
  | _ => .int
theorem znm5 : ∀ a, a < 7 → ∀ b, b < 7 → a ≠ b → (zF5 a).2.1 ≠ (zF5 b).2.1 := by decide +kernel
theorem zty5 : ∀ k, k < 7 → parseFieldDescriptor (zF5 k).2.2.1 = some (zt5 k) := by decide +kernel
theorem zin5 : ∀ w ∈ u_ws zR5 zF5 7, w ∈ lw_tbl := by
  intro w hw
  obtain ⟨k, hk, rfl⟩ := List.mem_map.mp hw
  have hk := List.mem_range.mp hk
  refine List.mem_append_right _ (List.mem_of_getElem? (i := ([132, 134, 136, 138, 140, 142, 144] : List Nat).getD k 0) ?_)
  revert k
  decide +kernel
def zR6 : String := "StyledRuns$Span"
def zF6 : u_T := fun k => match k with
  | 0 => ("StyledRuns$Span", "stands", "Z", false)
  | 1 => ("StyledRuns$Span", "from", "I", false)
  | 2 => ("StyledRuns$Span", "to", "I", false)
  | 3 => ("StyledRuns$Span", "layer", "I", false)
  | 4 => ("StyledRuns$Span", "on", "I", false)
  | 5 => ("StyledRuns$Span", "off", "I", false)
  | 6 => ("StyledRuns$Span", "color", "I", false)
  | 7 => ("StyledRuns$Span", "grows", "I", false)
  | _ => ("StyledRuns$Span", "sides", "I", false)
def zt6 : Nat → FieldType := fun k => match k with
  | 0 => .boolean
  | 1 => .int
  | 2 => .int
  | 3 => .int
  | 4 => .int
  | 5 => .int
  | 6 => .int
  | 7 => .int
  | _ => .int
theorem znm6 : ∀ a, a < 9 → ∀ b, b < 9 → a ≠ b → (zF6 a).2.1 ≠ (zF6 b).2.1 := by decide +kernel
theorem zty6 : ∀ k, k < 9 → parseFieldDescriptor (zF6 k).2.2.1 = some (zt6 k) := by decide +kernel
theorem zin6 : ∀ w ∈ u_ws zR6 zF6 9, w ∈ lw_tbl := by
  intro w hw
  obtain ⟨k, hk, rfl⟩ := List.mem_map.mp hw
  have hk := List.mem_range.mp hk
  refine List.mem_append_right _ (List.mem_of_getElem? (i := ([66, 68, 70, 72, 74, 76, 78, 80, 82] : List Nat).getD k 0) ?_)
  revert k
  decide +kernel
def zR7 : String := "StyledRuns$Tape"
def zF7 : u_T := fun k => match k with
  | 0 => ("StyledRuns$Tape", "row", "[I", true)
  | _ => ("StyledRuns$Tape", "length", "I", false)
def zt7 : Nat → FieldType := fun k => match k with
  | 0 => .array .int
  | _ => .int
theorem znm7 : ∀ a, a < 2 → ∀ b, b < 2 → a ≠ b → (zF7 a).2.1 ≠ (zF7 b).2.1 := by decide +kernel
theorem zty7 : ∀ k, k < 2 → parseFieldDescriptor (zF7 k).2.2.1 = some (zt7 k) := by decide +kernel
theorem zin7 : ∀ w ∈ u_ws zR7 zF7 2, w ∈ lw_tbl := by
  intro w hw
  obtain ⟨k, hk, rfl⟩ := List.mem_map.mp hw
  have hk := List.mem_range.mp hk
  refine List.mem_append_right _ (List.mem_of_getElem? (i := ([160, 162] : List Nat).getD k 0) ?_)
  revert k
  decide +kernel
def zR8 : String := "StyledRuns$Writer"
def zF8 : u_T := fun k => match k with
  | 0 => ("StyledRuns$Writer", "out", "[I", true)
  | 1 => ("StyledRuns$Writer", "length", "I", false)
  | 2 => ("StyledRuns$Writer", "openKinds", "[I", true)
  | 3 => ("StyledRuns$Writer", "openValues", "[I", true)
  | _ => ("StyledRuns$Writer", "open", "I", false)
def zt8 : Nat → FieldType := fun k => match k with
  | 0 => .array .int
  | 1 => .int
  | 2 => .array .int
  | 3 => .array .int
  | _ => .int
theorem znm8 : ∀ a, a < 5 → ∀ b, b < 5 → a ≠ b → (zF8 a).2.1 ≠ (zF8 b).2.1 := by decide +kernel
theorem zty8 : ∀ k, k < 5 → parseFieldDescriptor (zF8 k).2.2.1 = some (zt8 k) := by decide +kernel
theorem zin8 : ∀ w ∈ u_ws zR8 zF8 5, w ∈ lw_tbl := by
  intro w hw
  obtain ⟨k, hk, rfl⟩ := List.mem_map.mp hw
  have hk := List.mem_range.mp hk
  refine List.mem_append_right _ (List.mem_of_getElem? (i := ([271, 273, 275, 277, 279] : List Nat).getD k 0) ?_)
  revert k
  decide +kernel
def zR9 : String := "StyledRuns"
def zF9 : u_T := fun k => match k with
  | 0 => ("StyledRuns", "sheet", "LStyledRuns$Sheet;", true)
  | 1 => ("StyledRuns", "bytes", "LStyledRuns$Tape;", true)
  | 2 => ("StyledRuns", "history", "LStyledRuns$History;", true)
  | 3 => ("StyledRuns", "images", "[LStyledRuns$Sheet;", true)
  | 4 => ("StyledRuns", "imageKept", "[Z", true)
  | 5 => ("StyledRuns", "present", "LStyledRuns$Looks;", true)
  | 6 => ("StyledRuns", "supposed", "LStyledRuns$Looks;", true)
  | 7 => ("StyledRuns", "reader", "LStyledRuns$Reader;", true)
  | 8 => ("StyledRuns", "writer", "LStyledRuns$Writer;", true)
  | 9 => ("StyledRuns", "refusals", "[I", true)
  | 10 => ("StyledRuns", "latestRefusal", "I", false)
  | _ => ("StyledRuns", "presentIsFresh", "Z", false)
def zt9 : Nat → FieldType := fun k => match k with
  | 0 => .object "StyledRuns$Sheet"
  | 1 => .object "StyledRuns$Tape"
  | 2 => .object "StyledRuns$History"
  | 3 => .array (.object "StyledRuns$Sheet")
  | 4 => .array .boolean
  | 5 => .object "StyledRuns$Looks"
  | 6 => .object "StyledRuns$Looks"
  | 7 => .object "StyledRuns$Reader"
  | 8 => .object "StyledRuns$Writer"
  | 9 => .array .int
  | 10 => .int
  | _ => .boolean
theorem znm9 : ∀ a, a < 12 → ∀ b, b < 12 → a ≠ b → (zF9 a).2.1 ≠ (zF9 b).2.1 := by decide +kernel
theorem zty9 : ∀ k, k < 12 → parseFieldDescriptor (zF9 k).2.2.1 = some (zt9 k) := by decide +kernel
theorem zin9 : ∀ w ∈ u_ws zR9 zF9 12, w ∈ lw_tbl := by
  intro w hw
  obtain ⟨k, hk, rfl⟩ := List.mem_map.mp hw
  have hk := List.mem_range.mp hk
  refine List.mem_append_right _ (List.mem_of_getElem? (i := ([294, 296, 298, 300, 302, 304, 306, 308, 310, 312, 314, 316] : List Nat).getD k 0) ?_)
  revert k
  decide +kernel
def zR10 : String := "StyledRunsModel"
def zF10 : u_T := fun k => match k with
  | 0 => ("StyledRunsModel", "thrown", "I", false)
  | 1 => ("StyledRunsModel", "status", "I", false)
  | 2 => ("StyledRunsModel", "refusals", "[I", true)
  | 3 => ("StyledRunsModel", "row", "[I", true)
  | 4 => ("StyledRunsModel", "undos", "[I", true)
  | 5 => ("StyledRunsModel", "sorts", "[I", true)
  | 6 => ("StyledRunsModel", "nUndo", "I", false)
  | 7 => ("StyledRunsModel", "acts", "[I", true)
  | 8 => ("StyledRunsModel", "images", "[I", true)
  | 9 => ("StyledRunsModel", "isKept", "[Z", true)
  | 10 => ("StyledRunsModel", "tape", "[B", true)
  | 11 => ("StyledRunsModel", "taped", "I", false)
  | 12 => ("StyledRunsModel", "fault", "I", false)
  | 13 => ("StyledRunsModel", "spanGoes", "[Z", true)
  | 14 => ("StyledRunsModel", "anchorGoes", "[Z", true)
  | 15 => ("StyledRunsModel", "moved", "[I", true)
  | 16 => ("StyledRunsModel", "flags", "I", false)
  | 17 => ("StyledRunsModel", "color", "I", false)
  | 18 => ("StyledRunsModel", "size", "I", false)
  | 19 => ("StyledRunsModel", "reading", "I", false)
  | 20 => ("StyledRunsModel", "isGood", "Z", false)
  | 21 => ("StyledRunsModel", "many", "I", false)
  | 22 => ("StyledRunsModel", "told", "[I", true)
  | 23 => ("StyledRunsModel", "open", "[I", true)
  | 24 => ("StyledRunsModel", "digit", "[I", true)
  | 25 => ("StyledRunsModel", "opened", "I", false)
  | 26 => ("StyledRunsModel", "out", "[B", true)
  | 27 => ("StyledRunsModel", "written", "I", false)
  | 28 => ("StyledRunsModel", "runAt", "[I", true)
  | 29 => ("StyledRunsModel", "runs", "I", false)
  | _ => ("StyledRunsModel", "styles", "[I", true)
def zt10 : Nat → FieldType := fun k => match k with
  | 0 => .int
  | 1 => .int
  | 2 => .array .int
  | 3 => .array .int
  | 4 => .array .int
  | 5 => .array .int
  | 6 => .int
  | 7 => .array .int
  | 8 => .array .int
  | 9 => .array .boolean
  | 10 => .array .byte
  | 11 => .int
  | 12 => .int
  | 13 => .array .boolean
  | 14 => .array .boolean
  | 15 => .array .int
  | 16 => .int
  | 17 => .int
  | 18 => .int
  | 19 => .int
  | 20 => .boolean
  | 21 => .int
  | 22 => .array .int
  | 23 => .array .int
  | 24 => .array .int
  | 25 => .int
  | 26 => .array .byte
  | 27 => .int
  | 28 => .array .int
  | 29 => .int
  | _ => .array .int
theorem znm10 : ∀ a, a < 31 → ∀ b, b < 31 → a ≠ b → (zF10 a).2.1 ≠ (zF10 b).2.1 := by decide +kernel
theorem zty10 : ∀ k, k < 31 → parseFieldDescriptor (zF10 k).2.2.1 = some (zt10 k) := by decide +kernel
theorem zin10 : ∀ w ∈ u_ws zR10 zF10 31, w ∈ lw_tbl := by
  intro w hw
  obtain ⟨k, hk, rfl⟩ := List.mem_map.mp hw
  have hk := List.mem_range.mp hk
  refine List.mem_append_right _ (List.mem_of_getElem? (i := ([885, 887, 889, 891, 893, 895, 897, 899, 901, 903, 905, 907, 909, 911, 913, 915, 917, 919, 921, 923, 925, 927, 929, 931, 933, 935, 937, 939, 941, 943, 945] : List Nat).getD k 0) ?_)
  revert k
  decide +kernel
abbrev zCls : List vw_C := [(zR0, zF0, 4), (zR1, zF1, 4), (zR2, zF2, 4), (zR3, zF3, 2), (zR4, zF4, 7), (zR5, zF5, 7), (zR6, zF6, 9), (zR7, zF7, 2), (zR8, zF8, 5), (zR9, zF9, 12), (zR10, zF10, 31)]
def zON (c : Nat) : String := (["StyledRuns$Act", "StyledRuns$Anchor", "StyledRuns$History", "StyledRuns$Looks", "StyledRuns$Reader", "StyledRuns$Sheet", "StyledRuns$Span", "StyledRuns$Tape", "StyledRuns$Writer", "StyledRuns", "StyledRunsModel", "StyledRuns$Place", "StyledRuns$Style", "StyledRunsLaw", "java/lang/Math"] : List String).getD c ""
/-- of a class: its slots; 0: a number; o: the cell o behind the object itself -/
def zFk (c : Nat) : List Nat := ([[0, 0, 0, 0], [0, 0, 0, 0], [1, 2, 0, 0], [1, 0], [1, 2, 0, 0, 3, 4, 0], [1, 2, 0, 3, 0, 4, 0], [0, 0, 0, 0, 0, 0, 0, 0, 0], [1, 0], [1, 0, 2, 3, 0], [1, 34, 36, 311, 312, 313, 315, 317, 322, 326, 0, 0], [0, 0, 1, 2, 3, 4, 0, 5, 6, 7, 8, 0, 0, 9, 10, 11, 0, 0, 0, 0, 0, 0, 12, 13, 14, 0, 15, 0, 16, 0, 17]] : List (List Nat)).getD c []
def zShe (o : Nat) : Nat × Nat × Nat := if o = 0 then (0, 5, 0) else if o ≤ 2 then (1, 0, 200) else if o = 3 then (2, 0, 16) else if o = 4 then (2, 1, 12) else if o ≤ 20 then (0, 6, 0) else (0, 1, 0)
/-- the shape of a cell: (0, class, 0); (1, 0 int 1 byte 2 boolean, length); (2, which kind of row, length) -/
def zSh (a : Nat) : Nat × Nat × Nat := if a < 34 then (if a = 0 then (0, 9, 0) else zShe (a - 1)) else if a < 39 then ([(0, 7, 0), (1, 0, 400), (0, 2, 0), (2, 2, 8), (2, 4, 8)] : List (Nat × Nat × Nat)).getD (a - 34) (3, 0, 0) else if a < 311 then (if (a - 39) % 34 = 33 then (0, 0, 0) else zShe ((a - 39) % 34)) else if a < 327 then ([(2, 3, 2), (1, 2, 2), (0, 3, 0), (1, 0, 200), (0, 3, 0), (1, 0, 200), (0, 4, 0), (1, 0, 200), (1, 0, 200), (1, 0, 8), (1, 0, 9), (0, 8, 0), (1, 0, 400), (1, 0, 6), (1, 0, 6), (1, 0, 7)] : List (Nat × Nat × Nat)).getD (a - 311) (3, 0, 0) else if a < 393 then zShe ((a - 327) % 33) else if a < 411 then ([(0, 10, 0), (1, 0, 7), (1, 0, 995), (1, 0, 7960), (1, 0, 8), (1, 0, 24), (1, 0, 1990), (1, 2, 2), (1, 1, 400), (1, 2, 16), (1, 2, 12), (1, 0, 800), (1, 0, 800), (1, 0, 8), (1, 0, 8), (1, 1, 10000), (1, 0, 201), (1, 0, 200)] : List (Nat × Nat × Nat)).getD (a - 393) (3, 0, 0) else if a = 100000 then (1, 0, 6) else (3, 0, 0)
def zRc (c : Nat) : Nat := ([3, 4, 5, 5, 6] : List Nat).getD c 0
def zRk (c : Nat) : Nat := ([6, 1, 5, 5, 0] : List Nat).getD c 0
def zRo (c : Nat) : Nat := ([2, 17, 2, 16, 34] : List Nat).getD c 0
def zRs (c : Nat) : Nat := ([1, 1, 34, 33, 34] : List Nat).getD c 0
/-- field links: (own class, entry, class, slot, place in the tables) -/
def zFL : List (Nat × Nat × Nat × Nat × Nat) := [(9, 10, 9, 0, 282), (9, 19, 9, 1, 283), (9, 26, 9, 2, 284), (9, 30, 9, 3, 285), (9, 34, 9, 4, 286), (9, 41, 9, 5, 287), (9, 45, 9, 6, 288), (9, 51, 9, 7, 289), (9, 58, 9, 8, 290), (9, 62, 9, 9, 291), (9, 66, 9, 10, 292), (9, 70, 9, 11, 293), (9, 74, 7, 1, 157), (9, 108, 5, 2, 121), (9, 133, 5, 4, 127), (9, 136, 5, 3, 124), (9, 140, 6, 0, 42), (9, 145, 6, 1, 45), (9, 148, 6, 2, 48), (9, 151, 6, 3, 51), (9, 154, 6, 8, 65), (9, 157, 6, 4, 54), (9, 160, 6, 5, 57), (9, 163, 6, 6, 60), (9, 166, 6, 7, 63), (9, 175, 5, 1, 117), (9, 188, 3, 0, 217), (9, 191, 5, 6, 131), (9, 194, 5, 5, 129), (9, 198, 1, 0, 93), (9, 201, 1, 1, 96), (9, 204, 1, 2, 99), (9, 207, 1, 3, 102), (9, 217, 4, 3, 238), (9, 228, 8, 0, 266), (9, 235, 2, 3, 199), (9, 248, 5, 0, 114), (9, 348, 7, 0, 155), (0, 9, 0, 0, 181), (0, 15, 0, 1, 183), (0, 18, 0, 2, 184), (0, 21, 0, 3, 185), (1, 7, 1, 0, 91), (1, 13, 1, 1, 94), (1, 17, 1, 2, 97), (1, 20, 1, 3, 100), (2, 11, 2, 0, 195), (2, 19, 2, 1, 196), (2, 23, 2, 2, 197), (2, 27, 2, 3, 198), (2, 49, 0, 0, 182), (3, 9, 3, 0, 215), (3, 15, 3, 1, 218), (3, 19, 5, 2, 119), (3, 22, 5, 1, 116), (3, 31, 5, 4, 126), (3, 34, 5, 3, 123), (3, 38, 6, 3, 50), (3, 43, 6, 0, 40), (3, 51, 6, 2, 47), (3, 60, 6, 1, 44), (3, 66, 6, 4, 53), (3, 69, 6, 5, 56), (3, 72, 6, 6, 59), (3, 75, 6, 7, 62), (4, 9, 4, 0, 231), (4, 15, 4, 1, 233), (4, 18, 4, 2, 235), (4, 22, 4, 3, 237), (4, 25, 4, 4, 239), (4, 28, 4, 5, 240), (4, 31, 4, 6, 241), (4, 36, 7, 1, 158), (5, 9, 5, 0, 112), (5, 15, 5, 1, 115), (5, 18, 5, 2, 118), (5, 24, 5, 3, 122), (5, 28, 5, 4, 125), (5, 33, 5, 5, 128), (5, 37, 5, 6, 130), (5, 55, 4, 2, 236), (5, 58, 4, 0, 232), (5, 59, 4, 1, 234), (5, 60, 6, 0, 41), (5, 64, 1, 0, 92), (5, 65, 1, 3, 101), (5, 78, 7, 1, 159), (5, 88, 7, 0, 154), (5, 95, 1, 1, 95), (5, 98, 1, 2, 98), (6, 9, 6, 0, 39), (6, 15, 6, 1, 43), (6, 19, 6, 2, 46), (6, 22, 6, 3, 49), (6, 25, 6, 4, 52), (6, 28, 6, 5, 55), (6, 31, 6, 6, 58), (6, 34, 6, 7, 61), (6, 37, 6, 8, 64), (7, 9, 7, 0, 153), (7, 15, 7, 1, 156), (8, 9, 8, 0, 265), (8, 15, 8, 1, 267), (8, 22, 8, 2, 268), (8, 25, 8, 3, 269), (8, 28, 8, 4, 270), (8, 31, 5, 2, 120), (8, 42, 3, 0, 216), (8, 56, 5, 0, 113), (10, 7, 10, 2, 856), (10, 13, 10, 3, 857), (10, 16, 10, 4, 858), (10, 19, 10, 5, 859), (10, 22, 10, 7, 861), (10, 25, 10, 8, 862), (10, 28, 10, 9, 863), (10, 32, 10, 10, 864), (10, 36, 10, 12, 866), (10, 40, 10, 13, 867), (10, 43, 10, 14, 868), (10, 46, 10, 15, 869), (10, 49, 10, 22, 876), (10, 52, 10, 23, 877), (10, 55, 10, 24, 878), (10, 58, 10, 26, 880), (10, 61, 10, 28, 882), (10, 64, 10, 30, 884), (10, 67, 10, 0, 854), (10, 70, 10, 1, 855), (10, 73, 10, 6, 860), (10, 113, 10, 11, 865), (10, 177, 10, 16, 870), (10, 180, 10, 17, 871), (10, 183, 10, 18, 872), (10, 203, 10, 20, 874), (10, 207, 10, 19, 873), (10, 219, 10, 25, 879), (10, 222, 10, 21, 875), (10, 231, 10, 27, 881), (10, 269, 10, 29, 883)]
def zCN (c : Nat) : vw_C := zCls.getD c ("", fun _ => ("", "", "", false), 0)
theorem zFL_ok : zFL.all (fun e => decide (tables_1[e.2.2.2.2]? = some (Cond.fieldLink (zON e.1) e.2.1 ((zCN e.2.2.1).2.1 e.2.2.2.1).1 ((zCN e.2.2.1).2.1 e.2.2.2.1).2.1 ((zCN e.2.2.1).2.1 e.2.2.2.1).2.2.1)) && decide (e.2.2.1 < 11) && decide (e.2.2.2.1 < (zCN e.2.2.1).2.2)) = true := by decide +kernel
/-- int constants, long constants: (own class, entry, value, place) -/
def zCI : List (Nat × Nat × Int32 × Nat) := [(9, 274, -2147483648, 713), (10, 282, -2147483648, 1238)]
def zCL : List (Nat × Nat × Int32 × Nat) := [(10, 101, 32, 1006), (10, 103, 126, 1007), (10, 157, 15, 1075), (10, 159, -1, 1076), (10, 161, 7, 1077), (10, 163, -3, 1078), (10, 165, 3, 1079), (10, 167, 9, 1071), (10, 261, 6, 1207), (10, 263, 5, 1208), (10, 275, 4, 1221), (10, 286, 2, 1247), (10, 294, 200, 1272)]
theorem zCI_ok : zCI.all (fun e => decide (tables_1[e.2.2.2]? = some (Cond.constant (zON e.1) e.2.1 e.2.2.1))) = true := by decide +kernel
theorem zCL_ok : zCL.all (fun e => decide (tables_1[e.2.2.2]? = some (Cond.constantLong (zON e.1) e.2.1 e.2.2.1.toInt64))) = true := by decide +kernel
def zNW : List (Nat × Nat × Nat × Nat) := [(9, 7, 5, 24), (9, 16, 7, 147), (9, 23, 2, 165), (9, 38, 3, 209), (9, 48, 4, 225), (9, 55, 8, 257), (2, 9, 5, 171), (2, 17, 0, 173), (5, 22, 6, 30), (5, 31, 1, 32), (13, 7, 9, 16), (13, 10, 10, 848)]
theorem zNW_ok : zNW.all (fun e => decide (tables_1[e.2.2.2]? = some (Cond.classLink (zON e.1) e.2.1 (zON e.2.2.1))) && decide (e.2.2.1 < 11)) = true := by decide +kernel
def zGS : List (Nat × Nat × Nat) := [(4, 73, 574), (8, 19, 263)]
-- [(4, 73, 574, 'StyledRuns'), (8, 19, 263, 'StyledRuns')]
theorem zGS_ok : zGS.all (fun e => decide (tables_1[e.2.2]? = some (Cond.fieldLinkNest (zON e.1) e.2.1 "StyledRuns" "MARK_SIGNS" "[I" "StyledRuns"))) = true := by decide +kernel
