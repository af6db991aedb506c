/-! Names of the program, by program (wip/whole/gen.py): classes, fields, words -/
def T_0 : u_T := fun k => match k with
  | 0 => ("TypeFoundry", "blend", "LTypeFoundry$Blend;", true)
  | 1 => ("TypeFoundry", "glyphs", "[LTypeFoundry$Glyph;", true)
  | 2 => ("TypeFoundry", "gathered", "LTypeFoundry$Outline;", true)
  | 3 => ("TypeFoundry", "path", "LTypeFoundry$Path;", true)
  | 4 => ("TypeFoundry", "heights", "LTypeFoundry$Heights;", true)
  | 5 => ("TypeFoundry", "canvas", "LTypeFoundry$Canvas;", true)
  | 6 => ("TypeFoundry", "kerning", "LTypeFoundry$Kerning;", true)
  | 7 => ("TypeFoundry", "setter", "LTypeFoundry$Setter;", true)
  | _ => ("TypeFoundry", "glyphCount", "I", false)
def y_0 : Nat → FieldType := fun k => match k with
  | 0 => .object "TypeFoundry$Blend"
  | 1 => .array (.object "TypeFoundry$Glyph")
  | 2 => .object "TypeFoundry$Outline"
  | 3 => .object "TypeFoundry$Path"
  | 4 => .object "TypeFoundry$Heights"
  | 5 => .object "TypeFoundry$Canvas"
  | 6 => .object "TypeFoundry$Kerning"
  | 7 => .object "TypeFoundry$Setter"
  | _ => .int
theorem nm_0 : ∀ a, a < 9 → ∀ b, b < 9 → a ≠ b → (T_0 a).2.1 ≠ (T_0 b).2.1 := by decide +kernel
theorem yk_0 : ∀ k, k < 9 → parseFieldDescriptor (T_0 k).2.2.1 = some (y_0 k) := by decide +kernel
theorem uw_0 : ∀ w ∈ u_ws "TypeFoundry" T_0 9, w ∈ tf_Ts := tf_memL [215, 217, 219, 221, 223, 225, 227, 229, 231] (by decide +kernel) (by decide +kernel)
def T_1 : u_T := fun k => match k with
  | 0 => ("TypeFoundry$Blend", "masters", "I", true)
  | 1 => ("TypeFoundry$Blend", "u", "I", false)
  | _ => ("TypeFoundry$Blend", "v", "I", false)
def y_1 : Nat → FieldType := fun k => match k with
  | 0 => .int
  | 1 => .int
  | _ => .int
theorem nm_1 : ∀ a, a < 3 → ∀ b, b < 3 → a ≠ b → (T_1 a).2.1 ≠ (T_1 b).2.1 := by decide +kernel
theorem yk_1 : ∀ k, k < 3 → parseFieldDescriptor (T_1 k).2.2.1 = some (y_1 k) := by decide +kernel
theorem uw_1 : ∀ w ∈ u_ws "TypeFoundry$Blend" T_1 3, w ∈ tf_Ts := tf_memL [49, 51, 53] (by decide +kernel) (by decide +kernel)
def T_2 : u_T := fun k => match k with
  | 0 => ("TypeFoundry$Canvas", "cells", "[I", true)
  | 1 => ("TypeFoundry$Canvas", "side", "I", false)
  | _ => ("TypeFoundry$Canvas", "across", "I", false)
def y_2 : Nat → FieldType := fun k => match k with
  | 0 => .array .int
  | 1 => .int
  | _ => .int
theorem nm_2 : ∀ a, a < 3 → ∀ b, b < 3 → a ≠ b → (T_2 a).2.1 ≠ (T_2 b).2.1 := by decide +kernel
theorem yk_2 : ∀ k, k < 3 → parseFieldDescriptor (T_2 k).2.2.1 = some (y_2 k) := by decide +kernel
theorem uw_2 : ∀ w ∈ u_ws "TypeFoundry$Canvas" T_2 3, w ∈ tf_Ts := tf_memL [135, 137, 139] (by decide +kernel) (by decide +kernel)
def T_3 : u_T := fun k => match k with
  | 0 => ("TypeFoundry$Glyph", "xs", "[I", true)
  | 1 => ("TypeFoundry$Glyph", "ys", "[I", true)
  | 2 => ("TypeFoundry$Glyph", "widths", "[I", true)
  | 3 => ("TypeFoundry$Glyph", "on", "[Z", true)
  | 4 => ("TypeFoundry$Glyph", "ends", "[I", true)
  | 5 => ("TypeFoundry$Glyph", "parts", "[LTypeFoundry$Part;", true)
  | 6 => ("TypeFoundry$Glyph", "points", "I", false)
  | 7 => ("TypeFoundry$Glyph", "contours", "I", false)
  | 8 => ("TypeFoundry$Glyph", "depth", "I", false)
  | 9 => ("TypeFoundry$Glyph", "locked", "Z", false)
  | 10 => ("TypeFoundry$Glyph", "masters", "I", true)
  | 11 => ("TypeFoundry$Glyph", "closedPoints", "I", false)
  | 12 => ("TypeFoundry$Glyph", "partCount", "I", false)
  | 13 => ("TypeFoundry$Glyph", "partPoints", "I", false)
  | _ => ("TypeFoundry$Glyph", "partContours", "I", false)
def y_3 : Nat → FieldType := fun k => match k with
  | 0 => .array .int
  | 1 => .array .int
  | 2 => .array .int
  | 3 => .array .boolean
  | 4 => .array .int
  | 5 => .array (.object "TypeFoundry$Part")
  | 6 => .int
  | 7 => .int
  | 8 => .int
  | 9 => .boolean
  | 10 => .int
  | 11 => .int
  | 12 => .int
  | 13 => .int
  | _ => .int
theorem nm_3 : ∀ a, a < 15 → ∀ b, b < 15 → a ≠ b → (T_3 a).2.1 ≠ (T_3 b).2.1 := by decide +kernel
theorem yk_3 : ∀ k, k < 15 → parseFieldDescriptor (T_3 k).2.2.1 = some (y_3 k) := by decide +kernel
theorem uw_3 : ∀ w ∈ u_ws "TypeFoundry$Glyph" T_3 15, w ∈ tf_Ts := tf_memL [479, 481, 483, 485, 487, 489, 491, 493, 495, 497, 499, 501, 503, 505, 507] (by decide +kernel) (by decide +kernel)
def T_4 : u_T := fun k => match k with
  | 0 => ("TypeFoundry$Heights", "size", "I", false)
  | _ => ("TypeFoundry$Heights", "ys", "[I", true)
def y_4 : Nat → FieldType := fun k => match k with
  | 0 => .int
  | _ => .array .int
theorem nm_4 : ∀ a, a < 2 → ∀ b, b < 2 → a ≠ b → (T_4 a).2.1 ≠ (T_4 b).2.1 := by decide +kernel
theorem yk_4 : ∀ k, k < 2 → parseFieldDescriptor (T_4 k).2.2.1 = some (y_4 k) := by decide +kernel
theorem uw_4 : ∀ w ∈ u_ws "TypeFoundry$Heights" T_4 2, w ∈ tf_Ts := tf_memL [121, 123] (by decide +kernel) (by decide +kernel)
def T_5 : u_T := fun k => match k with
  | 0 => ("TypeFoundry$Kerning", "pairs", "I", false)
  | 1 => ("TypeFoundry$Kerning", "leftClasses", "[I", true)
  | 2 => ("TypeFoundry$Kerning", "rightClasses", "[I", true)
  | 3 => ("TypeFoundry$Kerning", "ofClasses", "[I", true)
  | 4 => ("TypeFoundry$Kerning", "lefts", "[I", true)
  | 5 => ("TypeFoundry$Kerning", "rights", "[I", true)
  | _ => ("TypeFoundry$Kerning", "ofPairs", "[I", true)
def y_5 : Nat → FieldType := fun k => match k with
  | 0 => .int
  | 1 => .array .int
  | 2 => .array .int
  | 3 => .array .int
  | 4 => .array .int
  | 5 => .array .int
  | _ => .array .int
theorem nm_5 : ∀ a, a < 7 → ∀ b, b < 7 → a ≠ b → (T_5 a).2.1 ≠ (T_5 b).2.1 := by decide +kernel
theorem yk_5 : ∀ k, k < 7 → parseFieldDescriptor (T_5 k).2.2.1 = some (y_5 k) := by decide +kernel
theorem uw_5 : ∀ w ∈ u_ws "TypeFoundry$Kerning" T_5 7, w ∈ tf_Ts := tf_memL [156, 158, 160, 162, 164, 166, 168] (by decide +kernel) (by decide +kernel)
def T_6 : u_T := fun k => match k with
  | 0 => ("TypeFoundry$Outline", "xs", "[I", true)
  | 1 => ("TypeFoundry$Outline", "ys", "[I", true)
  | 2 => ("TypeFoundry$Outline", "on", "[Z", true)
  | 3 => ("TypeFoundry$Outline", "starts", "[I", true)
  | 4 => ("TypeFoundry$Outline", "contours", "I", false)
  | 5 => ("TypeFoundry$Outline", "contourOf", "[I", true)
  | _ => ("TypeFoundry$Outline", "points", "I", false)
def y_6 : Nat → FieldType := fun k => match k with
  | 0 => .array .int
  | 1 => .array .int
  | 2 => .array .boolean
  | 3 => .array .int
  | 4 => .int
  | 5 => .array .int
  | _ => .int
theorem nm_6 : ∀ a, a < 7 → ∀ b, b < 7 → a ≠ b → (T_6 a).2.1 ≠ (T_6 b).2.1 := by decide +kernel
theorem yk_6 : ∀ k, k < 7 → parseFieldDescriptor (T_6 k).2.2.1 = some (y_6 k) := by decide +kernel
theorem uw_6 : ∀ w ∈ u_ws "TypeFoundry$Outline" T_6 7, w ∈ tf_Ts := tf_memL [76, 78, 80, 82, 84, 86, 88] (by decide +kernel) (by decide +kernel)
def T_7 : u_T := fun k => match k with
  | 0 => ("TypeFoundry$Part", "source", "LTypeFoundry$Glyph;", true)
  | 1 => ("TypeFoundry$Part", "dx", "I", true)
  | 2 => ("TypeFoundry$Part", "dy", "I", true)
  | _ => ("TypeFoundry$Part", "turn", "I", true)
def y_7 : Nat → FieldType := fun k => match k with
  | 0 => .object "TypeFoundry$Glyph"
  | 1 => .int
  | 2 => .int
  | _ => .int
theorem nm_7 : ∀ a, a < 4 → ∀ b, b < 4 → a ≠ b → (T_7 a).2.1 ≠ (T_7 b).2.1 := by decide +kernel
theorem yk_7 : ∀ k, k < 4 → parseFieldDescriptor (T_7 k).2.2.1 = some (y_7 k) := by decide +kernel
theorem uw_7 : ∀ w ∈ u_ws "TypeFoundry$Part" T_7 4, w ∈ tf_Ts := tf_memL [607, 609, 611, 613] (by decide +kernel) (by decide +kernel)
def T_8 : u_T := fun k => match k with
  | 0 => ("TypeFoundry$Path", "xs", "[I", true)
  | 1 => ("TypeFoundry$Path", "ys", "[I", true)
  | _ => ("TypeFoundry$Path", "size", "I", false)
def y_8 : Nat → FieldType := fun k => match k with
  | 0 => .array .int
  | 1 => .array .int
  | _ => .int
theorem nm_8 : ∀ a, a < 3 → ∀ b, b < 3 → a ≠ b → (T_8 a).2.1 ≠ (T_8 b).2.1 := by decide +kernel
theorem yk_8 : ∀ k, k < 3 → parseFieldDescriptor (T_8 k).2.2.1 = some (y_8 k) := by decide +kernel
theorem uw_8 : ∀ w ∈ u_ws "TypeFoundry$Path" T_8 3, w ∈ tf_Ts := tf_memL [105, 107, 109] (by decide +kernel) (by decide +kernel)
def T_9 : u_T := fun k => match k with
  | 0 => ("TypeFoundry$Rule", "lookup", "I", true)
  | 1 => ("TypeFoundry$Rule", "inputLength", "I", true)
  | 2 => ("TypeFoundry$Rule", "output", "I", true)
  | 3 => ("TypeFoundry$Rule", "before", "J", true)
  | 4 => ("TypeFoundry$Rule", "input", "J", true)
  | 5 => ("TypeFoundry$Rule", "after", "J", true)
  | 6 => ("TypeFoundry$Rule", "beforeLength", "I", true)
  | _ => ("TypeFoundry$Rule", "afterLength", "I", true)
def y_9 : Nat → FieldType := fun k => match k with
  | 0 => .int
  | 1 => .int
  | 2 => .int
  | 3 => .long
  | 4 => .long
  | 5 => .long
  | 6 => .int
  | _ => .int
theorem nm_9 : ∀ a, a < 8 → ∀ b, b < 8 → a ≠ b → (T_9 a).2.1 ≠ (T_9 b).2.1 := by decide +kernel
theorem yk_9 : ∀ k, k < 8 → parseFieldDescriptor (T_9 k).2.2.1 = some (y_9 k) := by decide +kernel
theorem uw_9 : ∀ w ∈ u_ws "TypeFoundry$Rule" T_9 8, w ∈ tf_Ts := tf_memL [1070, 1072, 1074, 1076, 1078, 1080, 1082, 1084] (by decide +kernel) (by decide +kernel)
def T_10 : u_T := fun k => match k with
  | 0 => ("TypeFoundry$Setter", "row", "[I", true)
  | 1 => ("TypeFoundry$Setter", "rowSize", "I", false)
  | 2 => ("TypeFoundry$Setter", "textSize", "I", false)
  | 3 => ("TypeFoundry$Setter", "ruleCount", "I", false)
  | 4 => ("TypeFoundry$Setter", "puts", "I", false)
  | 5 => ("TypeFoundry$Setter", "text", "[I", true)
  | _ => ("TypeFoundry$Setter", "rules", "[LTypeFoundry$Rule;", true)
def y_10 : Nat → FieldType := fun k => match k with
  | 0 => .array .int
  | 1 => .int
  | 2 => .int
  | 3 => .int
  | 4 => .int
  | 5 => .array .int
  | _ => .array (.object "TypeFoundry$Rule")
theorem nm_10 : ∀ a, a < 7 → ∀ b, b < 7 → a ≠ b → (T_10 a).2.1 ≠ (T_10 b).2.1 := by decide +kernel
theorem yk_10 : ∀ k, k < 7 → parseFieldDescriptor (T_10 k).2.2.1 = some (y_10 k) := by decide +kernel
theorem uw_10 : ∀ w ∈ u_ws "TypeFoundry$Setter" T_10 7, w ∈ tf_Ts := tf_memL [191, 193, 195, 197, 199, 201, 203] (by decide +kernel) (by decide +kernel)
def T_11 : u_T := fun k => match k with
  | 0 => ("TypeFoundryModel", "thrown", "I", false)
  | 1 => ("TypeFoundryModel", "masters", "I", true)
  | 2 => ("TypeFoundryModel", "glyphs", "I", false)
  | 3 => ("TypeFoundryModel", "places", "[I", true)
  | 4 => ("TypeFoundryModel", "marks", "[B", true)
  | 5 => ("TypeFoundryModel", "points", "[I", true)
  | 6 => ("TypeFoundryModel", "closed", "[I", true)
  | 7 => ("TypeFoundryModel", "contours", "[I", true)
  | 8 => ("TypeFoundryModel", "widths", "[I", true)
  | 9 => ("TypeFoundryModel", "locked", "[Z", true)
  | 10 => ("TypeFoundryModel", "depths", "[I", true)
  | 11 => ("TypeFoundryModel", "sizes", "[I", true)
  | 12 => ("TypeFoundryModel", "parts", "[I", true)
  | 13 => ("TypeFoundryModel", "part", "[I", true)
  | 14 => ("TypeFoundryModel", "partX", "[I", true)
  | 15 => ("TypeFoundryModel", "partY", "[I", true)
  | 16 => ("TypeFoundryModel", "partTurn", "[I", true)
  | 17 => ("TypeFoundryModel", "u", "I", false)
  | 18 => ("TypeFoundryModel", "v", "I", false)
  | 19 => ("TypeFoundryModel", "outX", "[I", true)
  | 20 => ("TypeFoundryModel", "outY", "[I", true)
  | 21 => ("TypeFoundryModel", "outOn", "[Z", true)
  | 22 => ("TypeFoundryModel", "outContour", "[I", true)
  | 23 => ("TypeFoundryModel", "outSize", "I", false)
  | 24 => ("TypeFoundryModel", "outContours", "I", false)
  | 25 => ("TypeFoundryModel", "pile", "[I", true)
  | 26 => ("TypeFoundryModel", "nextPart", "[I", true)
  | 27 => ("TypeFoundryModel", "turnedX", "I", false)
  | 28 => ("TypeFoundryModel", "turnedY", "I", false)
  | 29 => ("TypeFoundryModel", "heights", "[I", true)
  | 30 => ("TypeFoundryModel", "heightCount", "I", false)
  | 31 => ("TypeFoundryModel", "grid", "[I", true)
  | 32 => ("TypeFoundryModel", "along", "I", false)
  | 33 => ("TypeFoundryModel", "side", "I", false)
  | 34 => ("TypeFoundryModel", "fitted", "Z", false)
  | 35 => ("TypeFoundryModel", "leftClass", "[B", true)
  | 36 => ("TypeFoundryModel", "rightClass", "[B", true)
  | 37 => ("TypeFoundryModel", "classKern", "[S", true)
  | 38 => ("TypeFoundryModel", "classTold", "[Z", true)
  | 39 => ("TypeFoundryModel", "pairOf", "[I", true)
  | 40 => ("TypeFoundryModel", "pairBy", "[I", true)
  | 41 => ("TypeFoundryModel", "pairs", "I", false)
  | 42 => ("TypeFoundryModel", "ruleLookup", "[I", true)
  | 43 => ("TypeFoundryModel", "ruleOutput", "[I", true)
  | 44 => ("TypeFoundryModel", "ruleBefore", "[I", true)
  | 45 => ("TypeFoundryModel", "ruleInput", "[J", true)
  | 46 => ("TypeFoundryModel", "ruleAfter", "[I", true)
  | 47 => ("TypeFoundryModel", "rules", "I", false)
  | 48 => ("TypeFoundryModel", "put", "I", false)
  | 49 => ("TypeFoundryModel", "text", "[I", true)
  | 50 => ("TypeFoundryModel", "typed", "I", false)
  | 51 => ("TypeFoundryModel", "row", "[I", true)
  | 52 => ("TypeFoundryModel", "rowSize", "I", false)
  | 53 => ("TypeFoundryModel", "startX", "I", false)
  | _ => ("TypeFoundryModel", "startY", "I", false)
def y_11 : Nat → FieldType := fun k => match k with
  | 0 => .int
  | 1 => .int
  | 2 => .int
  | 3 => .array .int
  | 4 => .array .byte
  | 5 => .array .int
  | 6 => .array .int
  | 7 => .array .int
  | 8 => .array .int
  | 9 => .array .boolean
  | 10 => .array .int
  | 11 => .array .int
  | 12 => .array .int
  | 13 => .array .int
  | 14 => .array .int
  | 15 => .array .int
  | 16 => .array .int
  | 17 => .int
  | 18 => .int
  | 19 => .array .int
  | 20 => .array .int
  | 21 => .array .boolean
  | 22 => .array .int
  | 23 => .int
  | 24 => .int
  | 25 => .array .int
  | 26 => .array .int
  | 27 => .int
  | 28 => .int
  | 29 => .array .int
  | 30 => .int
  | 31 => .array .int
  | 32 => .int
  | 33 => .int
  | 34 => .boolean
  | 35 => .array .byte
  | 36 => .array .byte
  | 37 => .array .short
  | 38 => .array .boolean
  | 39 => .array .int
  | 40 => .array .int
  | 41 => .int
  | 42 => .array .int
  | 43 => .array .int
  | 44 => .array .int
  | 45 => .array .long
  | 46 => .array .int
  | 47 => .int
  | 48 => .int
  | 49 => .array .int
  | 50 => .int
  | 51 => .array .int
  | 52 => .int
  | 53 => .int
  | _ => .int
theorem nm_11 : ∀ a, a < 55 → ∀ b, b < 55 → a ≠ b → (T_11 a).2.1 ≠ (T_11 b).2.1 := by decide +kernel
theorem yk_11 : ∀ k, k < 55 → parseFieldDescriptor (T_11 k).2.2.1 = some (y_11 k) := by decide +kernel
theorem uw_11 : ∀ w ∈ u_ws "TypeFoundryModel" T_11 55, w ∈ tf_Ts := tf_memL [1182, 1184, 1186, 1188, 1190, 1192, 1194, 1196, 1198, 1200, 1202, 1204, 1206, 1208, 1210, 1212, 1214, 1216, 1218, 1220, 1222, 1224, 1226, 1228, 1230, 1232, 1234, 1236, 1238, 1240, 1242, 1244, 1246, 1248, 1250, 1252, 1254, 1256, 1258, 1260, 1262, 1264, 1266, 1268, 1270, 1272, 1274, 1276, 1278, 1280, 1282, 1284, 1286, 1288, 1290] (by decide +kernel) (by decide +kernel)
def tf_cl : List vw_C := [("TypeFoundry", T_0, 9), ("TypeFoundry$Blend", T_1, 3), ("TypeFoundry$Canvas", T_2, 3), ("TypeFoundry$Glyph", T_3, 15), ("TypeFoundry$Heights", T_4, 2), ("TypeFoundry$Kerning", T_5, 7), ("TypeFoundry$Outline", T_6, 7), ("TypeFoundry$Part", T_7, 4), ("TypeFoundry$Path", T_8, 3), ("TypeFoundry$Rule", T_9, 8), ("TypeFoundry$Setter", T_10, 7), ("TypeFoundryModel", T_11, 55)]
abbrev tf_g (D : va_G) (tys : List (ClassId × FieldType)) : tf_G := (D, tf_cl, tys, tf_Ts, tf_NW)
theorem tf_gok (D : va_G) (tys : List (ClassId × FieldType)) : tf_ok (tf_g D tys) := ⟨fun w h => (List.mem_filter.mp h).2, fun w h => (List.mem_filter.mp h).2⟩
