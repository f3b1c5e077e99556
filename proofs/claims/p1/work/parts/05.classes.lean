/-! ===== the classes: fields by number, their types, their words ===== -/
def vd_T0 : u_T := fun k => match k with
  | 0 => ("VideoDecoder", "tape", "[B", true)
  | 1 => ("VideoDecoder", "tapeLength", "I", false)
  | 2 => ("VideoDecoder", "lastFault", "I", false)
  | 3 => ("VideoDecoder", "faultyFrame", "I", false)
  | 4 => ("VideoDecoder", "framesDecoded", "I", false)
  | 5 => ("VideoDecoder", "picturesShown", "I", false)
  | 6 => ("VideoDecoder", "lastKind", "I", false)
  | 7 => ("VideoDecoder", "pool", "[LVideoDecoder$Picture;", true)
  | 8 => ("VideoDecoder", "slots", "[LVideoDecoder$Picture;", true)
  | 9 => ("VideoDecoder", "shown", "LVideoDecoder$Picture;", false)
  | 10 => ("VideoDecoder", "contexts", "[I", true)
  | 11 => ("VideoDecoder", "crcTable", "[I", true)
  | 12 => ("VideoDecoder", "plain", "LVideoDecoder$PlainBits;", true)
  | 13 => ("VideoDecoder", "header", "LVideoDecoder$Header;", true)
  | 14 => ("VideoDecoder", "settings", "LVideoDecoder$Settings;", true)
  | 15 => ("VideoDecoder", "pending", "LVideoDecoder$Settings;", true)
  | 16 => ("VideoDecoder", "coder", "LVideoDecoder$Coder;", true)
  | 17 => ("VideoDecoder", "grid", "LVideoDecoder$Grid;", true)
  | 18 => ("VideoDecoder", "blocks", "LVideoDecoder$Blocks;", true)
  | _ => ("VideoDecoder", "filter", "LVideoDecoder$EdgeFilter;", true)
def vd_y0 : Nat → FieldType := fun k => match k with
  | 0 => (.array .byte)
  | 1 => .int
  | 2 => .int
  | 3 => .int
  | 4 => .int
  | 5 => .int
  | 6 => .int
  | 7 => (.array (.object "VideoDecoder$Picture"))
  | 8 => (.array (.object "VideoDecoder$Picture"))
  | 9 => (.object "VideoDecoder$Picture")
  | 10 => (.array .int)
  | 11 => (.array .int)
  | 12 => (.object "VideoDecoder$PlainBits")
  | 13 => (.object "VideoDecoder$Header")
  | 14 => (.object "VideoDecoder$Settings")
  | 15 => (.object "VideoDecoder$Settings")
  | 16 => (.object "VideoDecoder$Coder")
  | 17 => (.object "VideoDecoder$Grid")
  | 18 => (.object "VideoDecoder$Blocks")
  | _ => (.object "VideoDecoder$EdgeFilter")
theorem vd_nm0 : ∀ a, a < 20 → ∀ b, b < 20 → a ≠ b → (vd_T0 a).2.1 ≠ (vd_T0 b).2.1 := by decide +kernel
theorem vd_ty0 : ∀ k, k < 20 → parseFieldDescriptor (vd_T0 k).2.2.1 = some (vd_y0 k) := by decide +kernel
theorem vd_ig0 : (u_ws "VideoDecoder" vd_T0 20).all vd_gw = true := by decide +kernel
theorem vd_in0 : u_ws "VideoDecoder" vd_T0 20 = ([739, 741, 743, 745, 747, 749, 751, 753, 755, 757, 759, 761, 763, 765, 767, 769, 771, 773, 775, 777] : List Nat).filterMap (fun i => lw_tbl[i]?) := by decide +kernel
def vd_T1 : u_T := fun k => match k with
  | 0 => ("VideoDecoder$Blocks", "coder", "LVideoDecoder$Coder;", true)
  | 1 => ("VideoDecoder$Blocks", "header", "LVideoDecoder$Header;", true)
  | 2 => ("VideoDecoder$Blocks", "settings", "LVideoDecoder$Settings;", true)
  | 3 => ("VideoDecoder$Blocks", "grid", "LVideoDecoder$Grid;", true)
  | 4 => ("VideoDecoder$Blocks", "residue", "LVideoDecoder$Residue;", true)
  | 5 => ("VideoDecoder$Blocks", "still", "LVideoDecoder$StillPrediction;", true)
  | 6 => ("VideoDecoder$Blocks", "motion", "LVideoDecoder$Motion;", true)
  | 7 => ("VideoDecoder$Blocks", "picture", "LVideoDecoder$Picture;", false)
  | 8 => ("VideoDecoder$Blocks", "here", "I", false)
  | 9 => ("VideoDecoder$Blocks", "above", "I", false)
  | _ => ("VideoDecoder$Blocks", "left", "I", false)
def vd_y1 : Nat → FieldType := fun k => match k with
  | 0 => (.object "VideoDecoder$Coder")
  | 1 => (.object "VideoDecoder$Header")
  | 2 => (.object "VideoDecoder$Settings")
  | 3 => (.object "VideoDecoder$Grid")
  | 4 => (.object "VideoDecoder$Residue")
  | 5 => (.object "VideoDecoder$StillPrediction")
  | 6 => (.object "VideoDecoder$Motion")
  | 7 => (.object "VideoDecoder$Picture")
  | 8 => .int
  | 9 => .int
  | _ => .int
theorem vd_nm1 : ∀ a, a < 11 → ∀ b, b < 11 → a ≠ b → (vd_T1 a).2.1 ≠ (vd_T1 b).2.1 := by decide +kernel
theorem vd_ty1 : ∀ k, k < 11 → parseFieldDescriptor (vd_T1 k).2.2.1 = some (vd_y1 k) := by decide +kernel
theorem vd_ig1 : (u_ws "VideoDecoder$Blocks" vd_T1 11).all vd_gw = true := by decide +kernel
theorem vd_in1 : u_ws "VideoDecoder$Blocks" vd_T1 11 = ([654, 656, 658, 660, 662, 664, 666, 668, 670, 672, 674] : List Nat).filterMap (fun i => lw_tbl[i]?) := by decide +kernel
def vd_T2 : u_T := fun k => match k with
  | 0 => ("VideoDecoder$Coder", "tape", "[B", true)
  | 1 => ("VideoDecoder$Coder", "models", "[I", true)
  | 2 => ("VideoDecoder$Coder", "tallies", "[I", true)
  | 3 => ("VideoDecoder$Coder", "readings", "I", false)
  | 4 => ("VideoDecoder$Coder", "next", "I", false)
  | 5 => ("VideoDecoder$Coder", "limit", "I", false)
  | 6 => ("VideoDecoder$Coder", "held", "I", false)
  | 7 => ("VideoDecoder$Coder", "heldBits", "I", false)
  | 8 => ("VideoDecoder$Coder", "range", "I", false)
  | _ => ("VideoDecoder$Coder", "value", "I", false)
def vd_y2 : Nat → FieldType := fun k => match k with
  | 0 => (.array .byte)
  | 1 => (.array .int)
  | 2 => (.array .int)
  | 3 => .int
  | 4 => .int
  | 5 => .int
  | 6 => .int
  | 7 => .int
  | 8 => .int
  | _ => .int
theorem vd_nm2 : ∀ a, a < 10 → ∀ b, b < 10 → a ≠ b → (vd_T2 a).2.1 ≠ (vd_T2 b).2.1 := by decide +kernel
theorem vd_ty2 : ∀ k, k < 10 → parseFieldDescriptor (vd_T2 k).2.2.1 = some (vd_y2 k) := by decide +kernel
theorem vd_ig2 : (u_ws "VideoDecoder$Coder" vd_T2 10).all vd_gw = true := by decide +kernel
theorem vd_in2 : u_ws "VideoDecoder$Coder" vd_T2 10 = ([402, 404, 406, 408, 410, 412, 414, 416, 418, 420] : List Nat).filterMap (fun i => lw_tbl[i]?) := by decide +kernel
def vd_T3 : u_T := fun k => match k with
  | 0 => ("VideoDecoder$EdgeFilter", "settings", "LVideoDecoder$Settings;", true)
  | 1 => ("VideoDecoder$EdgeFilter", "grid", "LVideoDecoder$Grid;", true)
  | 2 => ("VideoDecoder$EdgeFilter", "lines", "I", false)
  | 3 => ("VideoDecoder$EdgeFilter", "levels", "[I", true)
  | 4 => ("VideoDecoder$EdgeFilter", "old", "[I", true)
  | 5 => ("VideoDecoder$EdgeFilter", "samples", "[I", false)
  | 6 => ("VideoDecoder$EdgeFilter", "level", "I", false)
  | 7 => ("VideoDecoder$EdgeFilter", "inner", "I", false)
  | 8 => ("VideoDecoder$EdgeFilter", "outer", "I", false)
  | _ => ("VideoDecoder$EdgeFilter", "changed", "Z", false)
def vd_y3 : Nat → FieldType := fun k => match k with
  | 0 => (.object "VideoDecoder$Settings")
  | 1 => (.object "VideoDecoder$Grid")
  | 2 => .int
  | 3 => (.array .int)
  | 4 => (.array .int)
  | 5 => (.array .int)
  | 6 => .int
  | 7 => .int
  | 8 => .int
  | _ => .boolean
theorem vd_nm3 : ∀ a, a < 10 → ∀ b, b < 10 → a ≠ b → (vd_T3 a).2.1 ≠ (vd_T3 b).2.1 := by decide +kernel
theorem vd_ty3 : ∀ k, k < 10 → parseFieldDescriptor (vd_T3 k).2.2.1 = some (vd_y3 k) := by decide +kernel
theorem vd_ig3 : (u_ws "VideoDecoder$EdgeFilter" vd_T3 10).all vd_gw = true := by decide +kernel
theorem vd_in3 : u_ws "VideoDecoder$EdgeFilter" vd_T3 10 = ([694, 696, 698, 700, 702, 704, 706, 708, 710, 712] : List Nat).filterMap (fun i => lw_tbl[i]?) := by decide +kernel
def vd_T4 : u_T := fun k => match k with
  | 0 => ("VideoDecoder$Grid", "width", "I", false)
  | 1 => ("VideoDecoder$Grid", "height", "I", false)
  | 2 => ("VideoDecoder$Grid", "columns", "I", false)
  | 3 => ("VideoDecoder$Grid", "rows", "I", false)
  | 4 => ("VideoDecoder$Grid", "blocks", "I", false)
  | 5 => ("VideoDecoder$Grid", "leavesMotion", "Z", false)
  | 6 => ("VideoDecoder$Grid", "hasLastMotion", "Z", false)
  | 7 => ("VideoDecoder$Grid", "owners", "[I", false)
  | 8 => ("VideoDecoder$Grid", "facts", "[I", false)
  | 9 => ("VideoDecoder$Grid", "lastOwners", "[I", false)
  | 10 => ("VideoDecoder$Grid", "lastFacts", "[I", false)
  | 11 => ("VideoDecoder$Grid", "map", "[I", true)
  | _ => ("VideoDecoder$Grid", "cells", "[B", true)
def vd_y4 : Nat → FieldType := fun k => match k with
  | 0 => .int
  | 1 => .int
  | 2 => .int
  | 3 => .int
  | 4 => .int
  | 5 => .boolean
  | 6 => .boolean
  | 7 => (.array .int)
  | 8 => (.array .int)
  | 9 => (.array .int)
  | 10 => (.array .int)
  | 11 => (.array .int)
  | _ => (.array .byte)
theorem vd_nm4 : ∀ a, a < 13 → ∀ b, b < 13 → a ≠ b → (vd_T4 a).2.1 ≠ (vd_T4 b).2.1 := by decide +kernel
theorem vd_ty4 : ∀ k, k < 13 → parseFieldDescriptor (vd_T4 k).2.2.1 = some (vd_y4 k) := by decide +kernel
theorem vd_ig4 : (u_ws "VideoDecoder$Grid" vd_T4 13).all vd_gw = true := by decide +kernel
theorem vd_in4 : u_ws "VideoDecoder$Grid" vd_T4 13 = ([457, 459, 461, 463, 465, 467, 469, 471, 473, 475, 477, 479, 481] : List Nat).filterMap (fun i => lw_tbl[i]?) := by decide +kernel
def vd_T5 : u_T := fun k => match k with
  | 0 => ("VideoDecoder$Header", "again", "Z", false)
  | 1 => ("VideoDecoder$Header", "againSlot", "I", false)
  | 2 => ("VideoDecoder$Header", "shown", "Z", false)
  | 3 => ("VideoDecoder$Header", "resilient", "Z", false)
  | 4 => ("VideoDecoder$Header", "kind", "I", false)
  | 5 => ("VideoDecoder$Header", "width", "I", false)
  | 6 => ("VideoDecoder$Header", "height", "I", false)
  | 7 => ("VideoDecoder$Header", "refreshed", "I", false)
  | 8 => ("VideoDecoder$Header", "references", "[I", true)
  | 9 => ("VideoDecoder$Header", "sides", "[I", true)
  | 10 => ("VideoDecoder$Header", "fine", "Z", false)
  | 11 => ("VideoDecoder$Header", "kernel", "I", false)
  | 12 => ("VideoDecoder$Header", "keep", "Z", false)
  | 13 => ("VideoDecoder$Header", "fixed", "Z", false)
  | 14 => ("VideoDecoder$Header", "context", "I", false)
  | 15 => ("VideoDecoder$Header", "second", "I", false)
  | 16 => ("VideoDecoder$Header", "data", "I", false)
  | 17 => ("VideoDecoder$Header", "transformMode", "I", false)
  | 18 => ("VideoDecoder$Header", "mayDouble", "Z", false)
  | _ => ("VideoDecoder$Header", "doubleByBlock", "Z", false)
def vd_y5 : Nat → FieldType := fun k => match k with
  | 0 => .boolean
  | 1 => .int
  | 2 => .boolean
  | 3 => .boolean
  | 4 => .int
  | 5 => .int
  | 6 => .int
  | 7 => .int
  | 8 => (.array .int)
  | 9 => (.array .int)
  | 10 => .boolean
  | 11 => .int
  | 12 => .boolean
  | 13 => .boolean
  | 14 => .int
  | 15 => .int
  | 16 => .int
  | 17 => .int
  | 18 => .boolean
  | _ => .boolean
theorem vd_nm5 : ∀ a, a < 20 → ∀ b, b < 20 → a ≠ b → (vd_T5 a).2.1 ≠ (vd_T5 b).2.1 := by decide +kernel
theorem vd_ty5 : ∀ k, k < 20 → parseFieldDescriptor (vd_T5 k).2.2.1 = some (vd_y5 k) := by decide +kernel
theorem vd_ig5 : (u_ws "VideoDecoder$Header" vd_T5 20).all vd_gw = true := by decide +kernel
theorem vd_in5 : u_ws "VideoDecoder$Header" vd_T5 20 = ([281, 283, 285, 287, 289, 291, 293, 295, 297, 299, 301, 303, 305, 307, 309, 311, 313, 315, 317, 319] : List Nat).filterMap (fun i => lw_tbl[i]?) := by decide +kernel
def vd_T6 : u_T := fun k => match k with
  | 0 => ("VideoDecoder$Motion", "header", "LVideoDecoder$Header;", true)
  | 1 => ("VideoDecoder$Motion", "grid", "LVideoDecoder$Grid;", true)
  | 2 => ("VideoDecoder$Motion", "references", "[LVideoDecoder$Picture;", true)
  | 3 => ("VideoDecoder$Motion", "vectors", "[I", true)
  | 4 => ("VideoDecoder$Motion", "found", "I", false)
  | 5 => ("VideoDecoder$Motion", "taps", "[I", true)
  | 6 => ("VideoDecoder$Motion", "line", "[I", true)
  | 7 => ("VideoDecoder$Motion", "rows", "[I", true)
  | 8 => ("VideoDecoder$Motion", "plane", "I", false)
  | 9 => ("VideoDecoder$Motion", "left", "I", false)
  | 10 => ("VideoDecoder$Motion", "top", "I", false)
  | 11 => ("VideoDecoder$Motion", "wide", "I", false)
  | _ => ("VideoDecoder$Motion", "high", "I", false)
def vd_y6 : Nat → FieldType := fun k => match k with
  | 0 => (.object "VideoDecoder$Header")
  | 1 => (.object "VideoDecoder$Grid")
  | 2 => (.array (.object "VideoDecoder$Picture"))
  | 3 => (.array .int)
  | 4 => .int
  | 5 => (.array .int)
  | 6 => (.array .int)
  | 7 => (.array .int)
  | 8 => .int
  | 9 => .int
  | 10 => .int
  | 11 => .int
  | _ => .int
theorem vd_nm6 : ∀ a, a < 13 → ∀ b, b < 13 → a ≠ b → (vd_T6 a).2.1 ≠ (vd_T6 b).2.1 := by decide +kernel
theorem vd_ty6 : ∀ k, k < 13 → parseFieldDescriptor (vd_T6 k).2.2.1 = some (vd_y6 k) := by decide +kernel
theorem vd_ig6 : (u_ws "VideoDecoder$Motion" vd_T6 13).all vd_gw = true := by decide +kernel
theorem vd_in6 : u_ws "VideoDecoder$Motion" vd_T6 13 = ([615, 617, 619, 621, 623, 625, 627, 629, 631, 633, 635, 637, 639] : List Nat).filterMap (fun i => lw_tbl[i]?) := by decide +kernel
def vd_T7 : u_T := fun k => match k with
  | 0 => ("VideoDecoder$Picture", "width", "I", false)
  | 1 => ("VideoDecoder$Picture", "height", "I", false)
  | _ => ("VideoDecoder$Picture", "samples", "[I", true)
def vd_y7 : Nat → FieldType := fun k => match k with
  | 0 => .int
  | 1 => .int
  | _ => (.array .int)
theorem vd_nm7 : ∀ a, a < 3 → ∀ b, b < 3 → a ≠ b → (vd_T7 a).2.1 ≠ (vd_T7 b).2.1 := by decide +kernel
theorem vd_ty7 : ∀ k, k < 3 → parseFieldDescriptor (vd_T7 k).2.2.1 = some (vd_y7 k) := by decide +kernel
theorem vd_ig7 : (u_ws "VideoDecoder$Picture" vd_T7 3).all vd_gw = true := by decide +kernel
theorem vd_in7 : u_ws "VideoDecoder$Picture" vd_T7 3 = ([1087, 1089, 1091] : List Nat).filterMap (fun i => lw_tbl[i]?) := by decide +kernel
def vd_T8 : u_T := fun k => match k with
  | 0 => ("VideoDecoder$PlainBits", "tape", "[B", true)
  | 1 => ("VideoDecoder$PlainBits", "position", "I", false)
  | 2 => ("VideoDecoder$PlainBits", "limit", "I", false)
  | _ => ("VideoDecoder$PlainBits", "fault", "I", false)
def vd_y8 : Nat → FieldType := fun k => match k with
  | 0 => (.array .byte)
  | 1 => .int
  | 2 => .int
  | _ => .int
theorem vd_nm8 : ∀ a, a < 4 → ∀ b, b < 4 → a ≠ b → (vd_T8 a).2.1 ≠ (vd_T8 b).2.1 := by decide +kernel
theorem vd_ty8 : ∀ k, k < 4 → parseFieldDescriptor (vd_T8 k).2.2.1 = some (vd_y8 k) := by decide +kernel
theorem vd_ig8 : (u_ws "VideoDecoder$PlainBits" vd_T8 4).all vd_gw = true := by decide +kernel
theorem vd_in8 : u_ws "VideoDecoder$PlainBits" vd_T8 4 = ([219, 221, 223, 225] : List Nat).filterMap (fun i => lw_tbl[i]?) := by decide +kernel
def vd_T9 : u_T := fun k => match k with
  | 0 => ("VideoDecoder$Residue", "coder", "LVideoDecoder$Coder;", true)
  | 1 => ("VideoDecoder$Residue", "settings", "LVideoDecoder$Settings;", true)
  | 2 => ("VideoDecoder$Residue", "grid", "LVideoDecoder$Grid;", true)
  | 3 => ("VideoDecoder$Residue", "written", "I", false)
  | 4 => ("VideoDecoder$Residue", "scans", "[I", true)
  | 5 => ("VideoDecoder$Residue", "waves", "[I", true)
  | 6 => ("VideoDecoder$Residue", "amounts", "[I", true)
  | 7 => ("VideoDecoder$Residue", "numbers", "[I", true)
  | 8 => ("VideoDecoder$Residue", "columns", "[I", true)
  | 9 => ("VideoDecoder$Residue", "quantisers", "[I", true)
  | 10 => ("VideoDecoder$Residue", "lossless", "Z", false)
  | 11 => ("VideoDecoder$Residue", "plane", "I", false)
  | 12 => ("VideoDecoder$Residue", "x", "I", false)
  | 13 => ("VideoDecoder$Residue", "y", "I", false)
  | 14 => ("VideoDecoder$Residue", "size", "I", false)
  | 15 => ("VideoDecoder$Residue", "lastRow", "I", false)
  | _ => ("VideoDecoder$Residue", "lastColumn", "I", false)
def vd_y9 : Nat → FieldType := fun k => match k with
  | 0 => (.object "VideoDecoder$Coder")
  | 1 => (.object "VideoDecoder$Settings")
  | 2 => (.object "VideoDecoder$Grid")
  | 3 => .int
  | 4 => (.array .int)
  | 5 => (.array .int)
  | 6 => (.array .int)
  | 7 => (.array .int)
  | 8 => (.array .int)
  | 9 => (.array .int)
  | 10 => .boolean
  | 11 => .int
  | 12 => .int
  | 13 => .int
  | 14 => .int
  | 15 => .int
  | _ => .int
theorem vd_nm9 : ∀ a, a < 17 → ∀ b, b < 17 → a ≠ b → (vd_T9 a).2.1 ≠ (vd_T9 b).2.1 := by decide +kernel
theorem vd_ty9 : ∀ k, k < 17 → parseFieldDescriptor (vd_T9 k).2.2.1 = some (vd_y9 k) := by decide +kernel
theorem vd_ig9 : (u_ws "VideoDecoder$Residue" vd_T9 17).all vd_gw = true := by decide +kernel
theorem vd_in9 : u_ws "VideoDecoder$Residue" vd_T9 17 = ([526, 528, 530, 532, 534, 536, 538, 540, 542, 544, 546, 548, 550, 552, 554, 556, 558] : List Nat).filterMap (fun i => lw_tbl[i]?) := by decide +kernel
def vd_T10 : u_T := fun k => match k with
  | 0 => ("VideoDecoder$Settings", "level", "I", false)
  | 1 => ("VideoDecoder$Settings", "sharp", "I", false)
  | 2 => ("VideoDecoder$Settings", "extrasCount", "Z", false)
  | 3 => ("VideoDecoder$Settings", "extras", "[I", true)
  | 4 => ("VideoDecoder$Settings", "base", "I", false)
  | 5 => ("VideoDecoder$Settings", "deltas", "[I", true)
  | 6 => ("VideoDecoder$Settings", "inUse", "Z", false)
  | 7 => ("VideoDecoder$Settings", "mapTold", "Z", false)
  | 8 => ("VideoDecoder$Settings", "guessed", "Z", false)
  | 9 => ("VideoDecoder$Settings", "tree", "[I", true)
  | 10 => ("VideoDecoder$Settings", "guesses", "[I", true)
  | 11 => ("VideoDecoder$Settings", "absolute", "Z", false)
  | 12 => ("VideoDecoder$Settings", "set", "[I", true)
  | _ => ("VideoDecoder$Settings", "values", "[I", true)
def vd_y10 : Nat → FieldType := fun k => match k with
  | 0 => .int
  | 1 => .int
  | 2 => .boolean
  | 3 => (.array .int)
  | 4 => .int
  | 5 => (.array .int)
  | 6 => .boolean
  | 7 => .boolean
  | 8 => .boolean
  | 9 => (.array .int)
  | 10 => (.array .int)
  | 11 => .boolean
  | 12 => (.array .int)
  | _ => (.array .int)
theorem vd_nm10 : ∀ a, a < 14 → ∀ b, b < 14 → a ≠ b → (vd_T10 a).2.1 ≠ (vd_T10 b).2.1 := by decide +kernel
theorem vd_ty10 : ∀ k, k < 14 → parseFieldDescriptor (vd_T10 k).2.2.1 = some (vd_y10 k) := by decide +kernel
theorem vd_ig10 : (u_ws "VideoDecoder$Settings" vd_T10 14).all vd_gw = true := by decide +kernel
theorem vd_in10 : u_ws "VideoDecoder$Settings" vd_T10 14 = ([355, 357, 359, 361, 363, 365, 367, 369, 371, 373, 375, 377, 379, 381] : List Nat).filterMap (fun i => lw_tbl[i]?) := by decide +kernel
def vd_T11 : u_T := fun k => match k with
  | 0 => ("VideoDecoder$StillPrediction", "grid", "LVideoDecoder$Grid;", true)
  | 1 => ("VideoDecoder$StillPrediction", "edge", "[I", true)
  | 2 => ("VideoDecoder$StillPrediction", "plane", "I", false)
  | 3 => ("VideoDecoder$StillPrediction", "left", "I", false)
  | 4 => ("VideoDecoder$StillPrediction", "top", "I", false)
  | 5 => ("VideoDecoder$StillPrediction", "side", "I", false)
  | 6 => ("VideoDecoder$StillPrediction", "knowsAbove", "Z", false)
  | _ => ("VideoDecoder$StillPrediction", "knowsLeft", "Z", false)
def vd_y11 : Nat → FieldType := fun k => match k with
  | 0 => (.object "VideoDecoder$Grid")
  | 1 => (.array .int)
  | 2 => .int
  | 3 => .int
  | 4 => .int
  | 5 => .int
  | 6 => .boolean
  | _ => .boolean
theorem vd_nm11 : ∀ a, a < 8 → ∀ b, b < 8 → a ≠ b → (vd_T11 a).2.1 ≠ (vd_T11 b).2.1 := by decide +kernel
theorem vd_ty11 : ∀ k, k < 8 → parseFieldDescriptor (vd_T11 k).2.2.1 = some (vd_y11 k) := by decide +kernel
theorem vd_ig11 : (u_ws "VideoDecoder$StillPrediction" vd_T11 8).all vd_gw = true := by decide +kernel
theorem vd_in11 : u_ws "VideoDecoder$StillPrediction" vd_T11 8 = ([575, 577, 579, 581, 583, 585, 587, 589] : List Nat).filterMap (fun i => lw_tbl[i]?) := by decide +kernel
def vd_T12 : u_T := fun k => match k with
  | 0 => ("VideoDecoderModel", "tape", "[B", true)
  | 1 => ("VideoDecoderModel", "size", "I", false)
  | 2 => ("VideoDecoderModel", "thrown", "I", false)
  | 3 => ("VideoDecoderModel", "fault", "I", false)
  | 4 => ("VideoDecoderModel", "faultFrame", "I", false)
  | 5 => ("VideoDecoderModel", "pool", "[LVideoDecoderModel$Picture;", true)
  | 6 => ("VideoDecoderModel", "slots", "[LVideoDecoderModel$Picture;", true)
  | 7 => ("VideoDecoderModel", "shown", "LVideoDecoderModel$Picture;", false)
  | 8 => ("VideoDecoderModel", "contexts", "[[I", true)
  | 9 => ("VideoDecoderModel", "map", "[I", true)
  | 10 => ("VideoDecoderModel", "extras", "[I", true)
  | 11 => ("VideoDecoderModel", "featured", "[Z", true)
  | 12 => ("VideoDecoderModel", "feature", "[I", true)
  | 13 => ("VideoDecoderModel", "absolute", "Z", false)
  | 14 => ("VideoDecoderModel", "lastW", "I", false)
  | 15 => ("VideoDecoderModel", "lastH", "I", false)
  | 16 => ("VideoDecoderModel", "lastMotion", "Z", false)
  | 17 => ("VideoDecoderModel", "lastRef", "[I", true)
  | 18 => ("VideoDecoderModel", "lastX", "[I", true)
  | 19 => ("VideoDecoderModel", "lastY", "[I", true)
  | 20 => ("VideoDecoderModel", "frames", "I", false)
  | 21 => ("VideoDecoderModel", "shows", "I", false)
  | 22 => ("VideoDecoderModel", "told", "[I", true)
  | 23 => ("VideoDecoderModel", "now", "LVideoDecoderModel$Picture;", false)
  | 24 => ("VideoDecoderModel", "w", "I", false)
  | 25 => ("VideoDecoderModel", "h", "I", false)
  | 26 => ("VideoDecoderModel", "w8", "I", false)
  | 27 => ("VideoDecoderModel", "h8", "I", false)
  | 28 => ("VideoDecoderModel", "models", "[I", true)
  | 29 => ("VideoDecoderModel", "zeros", "[I", true)
  | 30 => ("VideoDecoderModel", "ones", "[I", true)
  | 31 => ("VideoDecoderModel", "reference", "[LVideoDecoderModel$Picture;", true)
  | 32 => ("VideoDecoderModel", "side", "[I", true)
  | 33 => ("VideoDecoderModel", "still", "Z", false)
  | 34 => ("VideoDecoderModel", "fine", "Z", false)
  | 35 => ("VideoDecoderModel", "lossless", "Z", false)
  | 36 => ("VideoDecoderModel", "inUse", "Z", false)
  | 37 => ("VideoDecoderModel", "mapTold", "Z", false)
  | 38 => ("VideoDecoderModel", "guessed", "Z", false)
  | 39 => ("VideoDecoderModel", "motion", "Z", false)
  | 40 => ("VideoDecoderModel", "kernel", "I", false)
  | 41 => ("VideoDecoderModel", "level", "I", false)
  | 42 => ("VideoDecoderModel", "sharp", "I", false)
  | 43 => ("VideoDecoderModel", "base", "I", false)
  | 44 => ("VideoDecoderModel", "transformMode", "I", false)
  | 45 => ("VideoDecoderModel", "doubles", "I", false)
  | 46 => ("VideoDecoderModel", "modelBits", "I", false)
  | 47 => ("VideoDecoderModel", "numbers", "I", false)
  | 48 => ("VideoDecoderModel", "extrasCount", "Z", false)
  | 49 => ("VideoDecoderModel", "delta", "[I", true)
  | 50 => ("VideoDecoderModel", "tree", "[I", true)
  | 51 => ("VideoDecoderModel", "guess", "[I", true)
  | 52 => ("VideoDecoderModel", "there", "[Z", true)
  | 53 => ("VideoDecoderModel", "skip", "[Z", true)
  | 54 => ("VideoDecoderModel", "other", "[Z", true)
  | 55 => ("VideoDecoderModel", "right", "[Z", true)
  | 56 => ("VideoDecoderModel", "col", "[I", true)
  | 57 => ("VideoDecoderModel", "row", "[I", true)
  | 58 => ("VideoDecoderModel", "cols", "[I", true)
  | 59 => ("VideoDecoderModel", "rows", "[I", true)
  | 60 => ("VideoDecoderModel", "segment", "[I", true)
  | 61 => ("VideoDecoderModel", "unit", "[I", true)
  | 62 => ("VideoDecoderModel", "mode", "[I", true)
  | 63 => ("VideoDecoderModel", "chroma", "[I", true)
  | 64 => ("VideoDecoderModel", "kind", "[I", true)
  | 65 => ("VideoDecoderModel", "kernels", "[I", true)
  | 66 => ("VideoDecoderModel", "ref", "[I", true)
  | 67 => ("VideoDecoderModel", "vx", "[I", true)
  | 68 => ("VideoDecoderModel", "vy", "[I", true)
  | 69 => ("VideoDecoderModel", "blocks", "I", false)
  | 70 => ("VideoDecoderModel", "gridW", "I", false)
  | 71 => ("VideoDecoderModel", "gridH", "I", false)
  | 72 => ("VideoDecoderModel", "written", "[[Z", true)
  | 73 => ("VideoDecoderModel", "have", "[[Z", true)
  | 74 => ("VideoDecoderModel", "bit", "I", false)
  | 75 => ("VideoDecoderModel", "bitEnd", "I", false)
  | 76 => ("VideoDecoderModel", "bad", "I", false)
  | 77 => ("VideoDecoderModel", "refresh", "I", false)
  | 78 => ("VideoDecoderModel", "context", "I", false)
  | 79 => ("VideoDecoderModel", "shows_", "Z", false)
  | 80 => ("VideoDecoderModel", "resilient", "Z", false)
  | 81 => ("VideoDecoderModel", "keep", "Z", false)
  | 82 => ("VideoDecoderModel", "fixed", "Z", false)
  | 83 => ("VideoDecoderModel", "intraOnly", "Z", false)
  | 84 => ("VideoDecoderModel", "key", "Z", false)
  | 85 => ("VideoDecoderModel", "featuresTold", "Z", false)
  | 86 => ("VideoDecoderModel", "newAbsolute", "Z", false)
  | 87 => ("VideoDecoderModel", "extraTold", "[Z", true)
  | 88 => ("VideoDecoderModel", "newFeatured", "[Z", true)
  | 89 => ("VideoDecoderModel", "newExtra", "[I", true)
  | 90 => ("VideoDecoderModel", "newFeature", "[I", true)
  | 91 => ("VideoDecoderModel", "range", "I", false)
  | 92 => ("VideoDecoderModel", "value", "I", false)
  | 93 => ("VideoDecoderModel", "codeBit", "I", false)
  | 94 => ("VideoDecoderModel", "codeEnd", "I", false)
  | 95 => ("VideoDecoderModel", "x0", "I", false)
  | 96 => ("VideoDecoderModel", "y0", "I", false)
  | 97 => ("VideoDecoderModel", "bw", "I", false)
  | 98 => ("VideoDecoderModel", "bh", "I", false)
  | 99 => ("VideoDecoderModel", "ux", "I", false)
  | 100 => ("VideoDecoderModel", "uy", "I", false)
  | 101 => ("VideoDecoderModel", "up", "I", false)
  | 102 => ("VideoDecoderModel", "left", "I", false)
  | 103 => ("VideoDecoderModel", "seg", "I", false)
  | 104 => ("VideoDecoderModel", "max", "I", false)
  | 105 => ("VideoDecoderModel", "sizeOf", "I", false)
  | 106 => ("VideoDecoderModel", "modeOf", "I", false)
  | 107 => ("VideoDecoderModel", "chromaOf", "I", false)
  | 108 => ("VideoDecoderModel", "kindOf", "I", false)
  | 109 => ("VideoDecoderModel", "kernelOf", "I", false)
  | 110 => ("VideoDecoderModel", "skips", "Z", false)
  | 111 => ("VideoDecoderModel", "others", "Z", false)
  | 112 => ("VideoDecoderModel", "wasRight", "Z", false)
  | 113 => ("VideoDecoderModel", "refOf", "[I", true)
  | 114 => ("VideoDecoderModel", "xOf", "[I", true)
  | 115 => ("VideoDecoderModel", "yOf", "[I", true)
  | 116 => ("VideoDecoderModel", "found", "I", false)
  | 117 => ("VideoDecoderModel", "foundX", "[I", true)
  | 118 => ("VideoDecoderModel", "foundY", "[I", true)
  | 119 => ("VideoDecoderModel", "scan", "[[I", true)
  | 120 => ("VideoDecoderModel", "number", "[I", true)
  | 121 => ("VideoDecoderModel", "amount", "[I", true)
  | 122 => ("VideoDecoderModel", "half", "[I", true)
  | 123 => ("VideoDecoderModel", "sines", "Z", false)
  | 124 => ("VideoDecoderModel", "above", "[I", true)
  | 125 => ("VideoDecoderModel", "beside", "[I", true)
  | 126 => ("VideoDecoderModel", "corner", "I", false)
  | 127 => ("VideoDecoderModel", "hasAbove", "Z", false)
  | 128 => ("VideoDecoderModel", "hasBeside", "Z", false)
  | 129 => ("VideoDecoderModel", "lines", "I", false)
  | 130 => ("VideoDecoderModel", "linePlane", "I", false)
  | 131 => ("VideoDecoderModel", "lineX", "I", false)
  | 132 => ("VideoDecoderModel", "lineY", "I", false)
  | 133 => ("VideoDecoderModel", "lineFlat", "Z", false)
  | _ => ("VideoDecoderModel", "old", "[I", true)
def vd_y12 : Nat → FieldType := fun k => match k with
  | 0 => (.array .byte)
  | 1 => .int
  | 2 => .int
  | 3 => .int
  | 4 => .int
  | 5 => (.array (.object "VideoDecoderModel$Picture"))
  | 6 => (.array (.object "VideoDecoderModel$Picture"))
  | 7 => (.object "VideoDecoderModel$Picture")
  | 8 => (.array (.array .int))
  | 9 => (.array .int)
  | 10 => (.array .int)
  | 11 => (.array .boolean)
  | 12 => (.array .int)
  | 13 => .boolean
  | 14 => .int
  | 15 => .int
  | 16 => .boolean
  | 17 => (.array .int)
  | 18 => (.array .int)
  | 19 => (.array .int)
  | 20 => .int
  | 21 => .int
  | 22 => (.array .int)
  | 23 => (.object "VideoDecoderModel$Picture")
  | 24 => .int
  | 25 => .int
  | 26 => .int
  | 27 => .int
  | 28 => (.array .int)
  | 29 => (.array .int)
  | 30 => (.array .int)
  | 31 => (.array (.object "VideoDecoderModel$Picture"))
  | 32 => (.array .int)
  | 33 => .boolean
  | 34 => .boolean
  | 35 => .boolean
  | 36 => .boolean
  | 37 => .boolean
  | 38 => .boolean
  | 39 => .boolean
  | 40 => .int
  | 41 => .int
  | 42 => .int
  | 43 => .int
  | 44 => .int
  | 45 => .int
  | 46 => .int
  | 47 => .int
  | 48 => .boolean
  | 49 => (.array .int)
  | 50 => (.array .int)
  | 51 => (.array .int)
  | 52 => (.array .boolean)
  | 53 => (.array .boolean)
  | 54 => (.array .boolean)
  | 55 => (.array .boolean)
  | 56 => (.array .int)
  | 57 => (.array .int)
  | 58 => (.array .int)
  | 59 => (.array .int)
  | 60 => (.array .int)
  | 61 => (.array .int)
  | 62 => (.array .int)
  | 63 => (.array .int)
  | 64 => (.array .int)
  | 65 => (.array .int)
  | 66 => (.array .int)
  | 67 => (.array .int)
  | 68 => (.array .int)
  | 69 => .int
  | 70 => .int
  | 71 => .int
  | 72 => (.array (.array .boolean))
  | 73 => (.array (.array .boolean))
  | 74 => .int
  | 75 => .int
  | 76 => .int
  | 77 => .int
  | 78 => .int
  | 79 => .boolean
  | 80 => .boolean
  | 81 => .boolean
  | 82 => .boolean
  | 83 => .boolean
  | 84 => .boolean
  | 85 => .boolean
  | 86 => .boolean
  | 87 => (.array .boolean)
  | 88 => (.array .boolean)
  | 89 => (.array .int)
  | 90 => (.array .int)
  | 91 => .int
  | 92 => .int
  | 93 => .int
  | 94 => .int
  | 95 => .int
  | 96 => .int
  | 97 => .int
  | 98 => .int
  | 99 => .int
  | 100 => .int
  | 101 => .int
  | 102 => .int
  | 103 => .int
  | 104 => .int
  | 105 => .int
  | 106 => .int
  | 107 => .int
  | 108 => .int
  | 109 => .int
  | 110 => .boolean
  | 111 => .boolean
  | 112 => .boolean
  | 113 => (.array .int)
  | 114 => (.array .int)
  | 115 => (.array .int)
  | 116 => .int
  | 117 => (.array .int)
  | 118 => (.array .int)
  | 119 => (.array (.array .int))
  | 120 => (.array .int)
  | 121 => (.array .int)
  | 122 => (.array .int)
  | 123 => .boolean
  | 124 => (.array .int)
  | 125 => (.array .int)
  | 126 => .int
  | 127 => .boolean
  | 128 => .boolean
  | 129 => .int
  | 130 => .int
  | 131 => .int
  | 132 => .int
  | 133 => .boolean
  | _ => (.array .int)
theorem vd_nm12 : ∀ a, a < 135 → ∀ b, b < 135 → a ≠ b → (vd_T12 a).2.1 ≠ (vd_T12 b).2.1 := by decide +kernel
theorem vd_ty12 : ∀ k, k < 135 → parseFieldDescriptor (vd_T12 k).2.2.1 = some (vd_y12 k) := by decide +kernel
theorem vd_ig12 : (u_ws "VideoDecoderModel" vd_T12 135).all vd_gw = true := by decide +kernel
theorem vd_in12 : u_ws "VideoDecoderModel" vd_T12 135 = ([2039, 2041, 2043, 2045, 2047, 2049, 2051, 2053, 2055, 2057, 2059, 2061, 2063, 2065, 2067, 2069, 2071, 2073, 2075, 2077, 2079, 2081, 2083, 2085, 2087, 2089, 2091, 2093, 2095, 2097, 2099, 2101, 2103, 2105, 2107, 2109, 2111, 2113, 2115, 2117, 2119, 2121, 2123, 2125, 2127, 2129, 2131, 2133, 2135, 2137, 2139, 2141, 2143, 2145, 2147, 2149, 2151, 2153, 2155, 2157, 2159, 2161, 2163, 2165, 2167, 2169, 2171, 2173, 2175, 2177, 2179, 2181, 2183, 2185, 2187, 2189, 2191, 2193, 2195, 2197, 2199, 2201, 2203, 2205, 2207, 2209, 2211, 2213, 2215, 2217, 2219, 2221, 2223, 2225, 2227, 2229, 2231, 2233, 2235, 2237, 2239, 2241, 2243, 2245, 2247, 2249, 2251, 2253, 2255, 2257, 2259, 2261, 2263, 2265, 2267, 2269, 2271, 2273, 2275, 2277, 2279, 2281, 2283, 2285, 2287, 2289, 2291, 2293, 2295, 2297, 2299, 2301, 2303, 2305, 2307] : List Nat).filterMap (fun i => lw_tbl[i]?) := by decide +kernel
def vd_T13 : u_T := fun k => match k with
  | 0 => ("VideoDecoderModel$Picture", "w", "I", false)
  | 1 => ("VideoDecoderModel$Picture", "h", "I", false)
  | 2 => ("VideoDecoderModel$Picture", "samples", "[[B", true)
  | _ => ("VideoDecoderModel$Picture", "held", "I", false)
def vd_y13 : Nat → FieldType := fun k => match k with
  | 0 => .int
  | 1 => .int
  | 2 => (.array (.array .byte))
  | _ => .int
theorem vd_nm13 : ∀ a, a < 4 → ∀ b, b < 4 → a ≠ b → (vd_T13 a).2.1 ≠ (vd_T13 b).2.1 := by decide +kernel
theorem vd_ty13 : ∀ k, k < 4 → parseFieldDescriptor (vd_T13 k).2.2.1 = some (vd_y13 k) := by decide +kernel
theorem vd_ig13 : (u_ws "VideoDecoderModel$Picture" vd_T13 4).all vd_gw = true := by decide +kernel
theorem vd_in13 : u_ws "VideoDecoderModel$Picture" vd_T13 4 = ([1890, 1892, 1894, 1896] : List Nat).filterMap (fun i => lw_tbl[i]?) := by decide +kernel
def vd_T14 : u_T := fun k => match k with
  | _ => ("", "", "", false)
def vd_y14 : Nat → FieldType := fun k => match k with
  | _ => .int
theorem vd_nm14 : ∀ a, a < 0 → ∀ b, b < 0 → a ≠ b → (vd_T14 a).2.1 ≠ (vd_T14 b).2.1 := by decide +kernel
theorem vd_ty14 : ∀ k, k < 0 → parseFieldDescriptor (vd_T14 k).2.2.1 = some (vd_y14 k) := by decide +kernel
theorem vd_ig14 : (u_ws "java/lang/IllegalStateException" vd_T14 0).all vd_gw = true := by decide +kernel
theorem vd_in14 : u_ws "java/lang/IllegalStateException" vd_T14 0 = ([] : List Nat).filterMap (fun i => lw_tbl[i]?) := by decide +kernel
def vd_T15 : u_T := fun k => match k with
  | _ => ("", "", "", false)
def vd_y15 : Nat → FieldType := fun k => match k with
  | _ => .int
theorem vd_nm15 : ∀ a, a < 0 → ∀ b, b < 0 → a ≠ b → (vd_T15 a).2.1 ≠ (vd_T15 b).2.1 := by decide +kernel
theorem vd_ty15 : ∀ k, k < 0 → parseFieldDescriptor (vd_T15 k).2.2.1 = some (vd_y15 k) := by decide +kernel
theorem vd_ig15 : (u_ws "java/lang/IllegalArgumentException" vd_T15 0).all vd_gw = true := by decide +kernel
theorem vd_in15 : u_ws "java/lang/IllegalArgumentException" vd_T15 0 = ([] : List Nat).filterMap (fun i => lw_tbl[i]?) := by decide +kernel
def vd_T16 : u_T := fun k => match k with
  | _ => ("", "", "", false)
def vd_y16 : Nat → FieldType := fun k => match k with
  | _ => .int
theorem vd_nm16 : ∀ a, a < 0 → ∀ b, b < 0 → a ≠ b → (vd_T16 a).2.1 ≠ (vd_T16 b).2.1 := by decide +kernel
theorem vd_ty16 : ∀ k, k < 0 → parseFieldDescriptor (vd_T16 k).2.2.1 = some (vd_y16 k) := by decide +kernel
theorem vd_ig16 : (u_ws "java/lang/UnsupportedOperationException" vd_T16 0).all vd_gw = true := by decide +kernel
theorem vd_in16 : u_ws "java/lang/UnsupportedOperationException" vd_T16 0 = ([] : List Nat).filterMap (fun i => lw_tbl[i]?) := by decide +kernel
def vd_T17 : u_T := fun k => match k with
  | _ => ("", "", "", false)
def vd_y17 : Nat → FieldType := fun k => match k with
  | _ => .int
theorem vd_nm17 : ∀ a, a < 0 → ∀ b, b < 0 → a ≠ b → (vd_T17 a).2.1 ≠ (vd_T17 b).2.1 := by decide +kernel
theorem vd_ty17 : ∀ k, k < 0 → parseFieldDescriptor (vd_T17 k).2.2.1 = some (vd_y17 k) := by decide +kernel
theorem vd_ig17 : (u_ws "java/util/NoSuchElementException" vd_T17 0).all vd_gw = true := by decide +kernel
theorem vd_in17 : u_ws "java/util/NoSuchElementException" vd_T17 0 = ([] : List Nat).filterMap (fun i => lw_tbl[i]?) := by decide +kernel
def vd_T18 : u_T := fun k => match k with
  | _ => ("", "", "", false)
def vd_y18 : Nat → FieldType := fun k => match k with
  | _ => .int
theorem vd_nm18 : ∀ a, a < 0 → ∀ b, b < 0 → a ≠ b → (vd_T18 a).2.1 ≠ (vd_T18 b).2.1 := by decide +kernel
theorem vd_ty18 : ∀ k, k < 0 → parseFieldDescriptor (vd_T18 k).2.2.1 = some (vd_y18 k) := by decide +kernel
theorem vd_ig18 : (u_ws "java/lang/IndexOutOfBoundsException" vd_T18 0).all vd_gw = true := by decide +kernel
theorem vd_in18 : u_ws "java/lang/IndexOutOfBoundsException" vd_T18 0 = ([] : List Nat).filterMap (fun i => lw_tbl[i]?) := by decide +kernel
def vd_cls : List vw_C := [("VideoDecoder", vd_T0, 20), ("VideoDecoder$Blocks", vd_T1, 11), ("VideoDecoder$Coder", vd_T2, 10), ("VideoDecoder$EdgeFilter", vd_T3, 10), ("VideoDecoder$Grid", vd_T4, 13), ("VideoDecoder$Header", vd_T5, 20), ("VideoDecoder$Motion", vd_T6, 13), ("VideoDecoder$Picture", vd_T7, 3), ("VideoDecoder$PlainBits", vd_T8, 4), ("VideoDecoder$Residue", vd_T9, 17), ("VideoDecoder$Settings", vd_T10, 14), ("VideoDecoder$StillPrediction", vd_T11, 8), ("VideoDecoderModel", vd_T12, 135), ("VideoDecoderModel$Picture", vd_T13, 4), ("java/lang/IllegalStateException", vd_T14, 0), ("java/lang/IllegalArgumentException", vd_T15, 0), ("java/lang/UnsupportedOperationException", vd_T16, 0), ("java/util/NoSuchElementException", vd_T17, 0), ("java/lang/IndexOutOfBoundsException", vd_T18, 0)]
def vd_fty (c k : Nat) : FieldType := match c with
  | 0 => vd_y0 k
  | 1 => vd_y1 k
  | 2 => vd_y2 k
  | 3 => vd_y3 k
  | 4 => vd_y4 k
  | 5 => vd_y5 k
  | 6 => vd_y6 k
  | 7 => vd_y7 k
  | 8 => vd_y8 k
  | 9 => vd_y9 k
  | 10 => vd_y10 k
  | 11 => vd_y11 k
  | 12 => vd_y12 k
  | 13 => vd_y13 k
  | 14 => vd_y14 k
  | 15 => vd_y15 k
  | 16 => vd_y16 k
  | 17 => vd_y17 k
  | _ => vd_y18 k
theorem vd_mem {ps : List Nat} {ws : List Cond} (h : ws = ps.filterMap (fun i => lw_tbl[i]?)) (hg : ws.all vd_gw = true) : ∀ w ∈ ws, w ∈ vd_tb := by
  intro w hw
  have hg1 := List.all_eq_true.mp hg w hw
  rw [h] at hw
  obtain ⟨i, -, hi⟩ := List.mem_filterMap.mp hw
  exact vd_tb_mem (List.mem_of_getElem? hi) hg1
theorem vd_cls_ok (c : Nat) (r : vw_C) (h : vd_cls[c]? = some r) : (∀ w ∈ u_ws r.1 r.2.1 r.2.2, w ∈ vd_tb) ∧ (∀ k, k < r.2.2 → parseFieldDescriptor (r.2.1 k).2.2.1 = some (vd_fty c k)) ∧ (∀ a, a < r.2.2 → ∀ b, b < r.2.2 → a ≠ b → (r.2.1 a).2.1 ≠ (r.2.1 b).2.1) := by
  match c, h with
  | 0, h => cases h; exact ⟨vd_mem vd_in0 vd_ig0, vd_ty0, vd_nm0⟩
  | 1, h => cases h; exact ⟨vd_mem vd_in1 vd_ig1, vd_ty1, vd_nm1⟩
  | 2, h => cases h; exact ⟨vd_mem vd_in2 vd_ig2, vd_ty2, vd_nm2⟩
  | 3, h => cases h; exact ⟨vd_mem vd_in3 vd_ig3, vd_ty3, vd_nm3⟩
  | 4, h => cases h; exact ⟨vd_mem vd_in4 vd_ig4, vd_ty4, vd_nm4⟩
  | 5, h => cases h; exact ⟨vd_mem vd_in5 vd_ig5, vd_ty5, vd_nm5⟩
  | 6, h => cases h; exact ⟨vd_mem vd_in6 vd_ig6, vd_ty6, vd_nm6⟩
  | 7, h => cases h; exact ⟨vd_mem vd_in7 vd_ig7, vd_ty7, vd_nm7⟩
  | 8, h => cases h; exact ⟨vd_mem vd_in8 vd_ig8, vd_ty8, vd_nm8⟩
  | 9, h => cases h; exact ⟨vd_mem vd_in9 vd_ig9, vd_ty9, vd_nm9⟩
  | 10, h => cases h; exact ⟨vd_mem vd_in10 vd_ig10, vd_ty10, vd_nm10⟩
  | 11, h => cases h; exact ⟨vd_mem vd_in11 vd_ig11, vd_ty11, vd_nm11⟩
  | 12, h => cases h; exact ⟨vd_mem vd_in12 vd_ig12, vd_ty12, vd_nm12⟩
  | 13, h => cases h; exact ⟨vd_mem vd_in13 vd_ig13, vd_ty13, vd_nm13⟩
  | 14, h => cases h; exact ⟨vd_mem vd_in14 vd_ig14, vd_ty14, vd_nm14⟩
  | 15, h => cases h; exact ⟨vd_mem vd_in15 vd_ig15, vd_ty15, vd_nm15⟩
  | 16, h => cases h; exact ⟨vd_mem vd_in16 vd_ig16, vd_ty16, vd_nm16⟩
  | 17, h => cases h; exact ⟨vd_mem vd_in17 vd_ig17, vd_ty17, vd_nm17⟩
  | 18, h => cases h; exact ⟨vd_mem vd_in18 vd_ig18, vd_ty18, vd_nm18⟩
  | c + 19, h => cases h
