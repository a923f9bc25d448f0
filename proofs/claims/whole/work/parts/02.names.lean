/-! names: the classes whose objects are made, their fields; the shape of the heap that the two constructors make (by program) -/
def go_px : List MethodName := [⟨"BitRecogniser$Table", "fillSpan", "(II)V"⟩, ⟨"BitRecogniser$Table", "takeLetters", "(I)V"⟩, ⟨"BitRecogniser$Table", "takeCut", "(III)V"⟩]
def go_pc : List String := ["BitRecogniser$Rounds", "BitRecogniser$Forest", "BitRecogniser$Nearest"]
/-- private methods of the abstract class, called on objects of the classes below it -/
def go_ps : List Cond := go_pc.flatMap (fun C => go_px.map (fun x => Cond.selects C x x))
def go_tbl : List Cond := (go_ps ++ lw_tbl).filter goodWord
theorem go_mem {w : Cond} {t : List Cond} (hs : ∀ w ∈ t, w ∈ tables_1) (i : Nat) (h : t[i]? = some w) (hg : goodWord w = true) : w ∈ go_tbl := List.mem_filter.mpr ⟨List.mem_append_right _ (List.mem_append_right _ (hs w (List.mem_of_getElem? h))), hg⟩
theorem go_mem_s {w : Cond} (i : Nat) (h : go_ps[i]? = some w) (hg : goodWord w = true) : w ∈ go_tbl := List.mem_filter.mpr ⟨List.mem_append_left _ (List.mem_of_getElem? h), hg⟩
theorem go_mem_p {w : Cond} (i : Nat) (h : (k2_sels lw_privs)[i]? = some w) (hg : goodWord w = true) : w ∈ go_tbl := List.mem_filter.mpr ⟨List.mem_append_right _ (List.mem_append_left _ (List.mem_of_getElem? h)), hg⟩
theorem go_mem_1 {w : Cond} (i : Nat) (h : tables_1_1[i]? = some w) (hg : goodWord w = true) : w ∈ go_tbl := go_mem (fun w h => by unfold tables_1; simp only [List.mem_append]; exact Or.inl h) i h hg
theorem go_mem_2 {w : Cond} (i : Nat) (h : tables_1_2[i]? = some w) (hg : goodWord w = true) : w ∈ go_tbl := go_mem (fun w h => by unfold tables_1; simp only [List.mem_append]; exact Or.inr (Or.inl h)) i h hg
theorem go_mem_3 {w : Cond} (i : Nat) (h : tables_1_3[i]? = some w) (hg : goodWord w = true) : w ∈ go_tbl := go_mem (fun w h => by unfold tables_1; simp only [List.mem_append]; exact Or.inr (Or.inr (Or.inl h))) i h hg
theorem go_mem_4 {w : Cond} (i : Nat) (h : tables_1_4[i]? = some w) (hg : goodWord w = true) : w ∈ go_tbl := go_mem (fun w h => by unfold tables_1; simp only [List.mem_append]; exact Or.inr (Or.inr (Or.inr (Or.inl h)))) i h hg
theorem go_mem_5 {w : Cond} (i : Nat) (h : tables_1_5[i]? = some w) (hg : goodWord w = true) : w ∈ go_tbl := go_mem (fun w h => by unfold tables_1; simp only [List.mem_append]; exact Or.inr (Or.inr (Or.inr (Or.inr (Or.inl h))))) i h hg
theorem go_mem_6 {w : Cond} (i : Nat) (h : tables_1_6[i]? = some w) (hg : goodWord w = true) : w ∈ go_tbl := go_mem (fun w h => by unfold tables_1; simp only [List.mem_append]; exact Or.inr (Or.inr (Or.inr (Or.inr (Or.inr (Or.inl h)))))) i h hg
theorem go_mem_7 {w : Cond} (i : Nat) (h : tables_1_7[i]? = some w) (hg : goodWord w = true) : w ∈ go_tbl := go_mem (fun w h => by unfold tables_1; simp only [List.mem_append]; exact Or.inr (Or.inr (Or.inr (Or.inr (Or.inr (Or.inr (Or.inl h))))))) i h hg
theorem go_mem_8 {w : Cond} (i : Nat) (h : tables_1_8[i]? = some w) (hg : goodWord w = true) : w ∈ go_tbl := go_mem (fun w h => by unfold tables_1; simp only [List.mem_append]; exact Or.inr (Or.inr (Or.inr (Or.inr (Or.inr (Or.inr (Or.inr (h)))))))) i h hg
def go_R0 : String := "BitRecogniser$Binary"
def go_T0 : u_T := fun k => match k with
  | 0 => ("BitRecogniser$Binary", "pairCodes", "[I", true)
  | 1 => ("BitRecogniser$Binary", "pairCount", "I", false)
  | 2 => ("BitRecogniser$Binary", "firstPairs", "[I", true)
  | 3 => ("BitRecogniser$Binary", "helperRules", "[I", true)
  | 4 => ("BitRecogniser$Binary", "helperPlaces", "[I", true)
  | 5 => ("BitRecogniser$Binary", "helperCount", "I", false)
  | 6 => ("BitRecogniser$Binary", "unitSteps", "[I", true)
  | 7 => ("BitRecogniser$Binary", "unitReach", "[I", true)
  | 8 => ("BitRecogniser$Binary", "unitCount", "I", false)
  | 9 => ("BitRecogniser$Binary", "uses", "[I", true)
  | 10 => ("BitRecogniser$Binary", "leastLengths", "[I", true)
  | 11 => ("BitRecogniser$Binary", "fruitful", "J", false)
  | 12 => ("BitRecogniser$Binary", "ways", "[I", true)
  | _ => ("BitRecogniser$Binary", "waysOnward", "[I", true)
def go_Y0 : Nat → FieldType := fun k => match k with
  | 0 => .array .int
  | 1 => .int
  | 2 => .array .int
  | 3 => .array .int
  | 4 => .array .int
  | 5 => .int
  | 6 => .array .int
  | 7 => .array .int
  | 8 => .int
  | 9 => .array .int
  | 10 => .array .int
  | 11 => .long
  | 12 => .array .int
  | _ => .array .int
theorem go_nm0 : ∀ a, a < 14 → ∀ b, b < 14 → a ≠ b → (go_T0 a).2.1 ≠ (go_T0 b).2.1 := by decide +kernel
theorem go_ty0 : ∀ k, k < 14 → parseFieldDescriptor (go_T0 k).2.2.1 = some (go_Y0 k) := by decide +kernel
theorem go_in0 : ∀ w ∈ u_ws go_R0 go_T0 14, w ∈ go_tbl := by decide +kernel
def go_R1 : String := "BitRecogniser$Chart"
def go_T1 : u_T := fun k => match k with
  | 0 => ("BitRecogniser$Chart", "alike", "Z", true)
  | 1 => ("BitRecogniser$Chart", "places", "[I", true)
  | 2 => ("BitRecogniser$Chart", "cells", "[J", true)
  | 3 => ("BitRecogniser$Chart", "fewest", "[I", true)
  | 4 => ("BitRecogniser$Chart", "begun", "[J", true)
  | 5 => ("BitRecogniser$Chart", "size", "I", false)
  | _ => ("BitRecogniser$Chart", "stampOfChart", "I", false)
def go_Y1 : Nat → FieldType := fun k => match k with
  | 0 => .boolean
  | 1 => .array .int
  | 2 => .array .long
  | 3 => .array .int
  | 4 => .array .long
  | 5 => .int
  | _ => .int
theorem go_nm1 : ∀ a, a < 7 → ∀ b, b < 7 → a ≠ b → (go_T1 a).2.1 ≠ (go_T1 b).2.1 := by decide +kernel
theorem go_ty1 : ∀ k, k < 7 → parseFieldDescriptor (go_T1 k).2.2.1 = some (go_Y1 k) := by decide +kernel
theorem go_in1 : ∀ w ∈ u_ws go_R1 go_T1 7, w ∈ go_tbl := by decide +kernel
def go_R2 : String := "BitRecogniser$Forest"
def go_T2 : u_T := fun k => match k with
  | 0 => ("BitRecogniser$Table", "binary", "LBitRecogniser$Binary;", true)
  | 1 => ("BitRecogniser$Table", "there", "LBitRecogniser$Chart;", true)
  | 2 => ("BitRecogniser$Table", "alike", "Z", true)
  | 3 => ("BitRecogniser$Table", "nothing", "J", true)
  | 4 => ("BitRecogniser$Table", "values", "[J", true)
  | 5 => ("BitRecogniser$Table", "fresh", "[J", true)
  | 6 => ("BitRecogniser$Table", "stampOfTable", "I", false)
  | _ => ("BitRecogniser$Forest", "bases", "[J", true)
def go_Y2 : Nat → FieldType := fun k => match k with
  | 0 => .object "BitRecogniser$Binary"
  | 1 => .object "BitRecogniser$Chart"
  | 2 => .boolean
  | 3 => .long
  | 4 => .array .long
  | 5 => .array .long
  | 6 => .int
  | _ => .array .long
theorem go_nm2 : ∀ a, a < 8 → ∀ b, b < 8 → a ≠ b → (go_T2 a).2.1 ≠ (go_T2 b).2.1 := by decide +kernel
theorem go_ty2 : ∀ k, k < 8 → parseFieldDescriptor (go_T2 k).2.2.1 = some (go_Y2 k) := by decide +kernel
theorem go_in2 : ∀ w ∈ u_ws go_R2 go_T2 8, w ∈ go_tbl := by decide +kernel
def go_R3 : String := "BitRecogniser$Listing"
def go_T3 : u_T := fun k => match k with
  | 0 => ("BitRecogniser$Listing", "told", "LBitRecogniser$Told;", true)
  | 1 => ("BitRecogniser$Listing", "binary", "LBitRecogniser$Binary;", true)
  | 2 => ("BitRecogniser$Listing", "forest", "LBitRecogniser$Forest;", true)
  | 3 => ("BitRecogniser$Listing", "rows", "[I", true)
  | 4 => ("BitRecogniser$Listing", "nodeCount", "I", false)
  | 5 => ("BitRecogniser$Listing", "waiting", "[I", true)
  | 6 => ("BitRecogniser$Listing", "waitingRanks", "[J", true)
  | 7 => ("BitRecogniser$Listing", "waitingCount", "I", false)
  | 8 => ("BitRecogniser$Listing", "symbol", "I", false)
  | 9 => ("BitRecogniser$Listing", "from", "I", false)
  | 10 => ("BitRecogniser$Listing", "to", "I", false)
  | 11 => ("BitRecogniser$Listing", "barred", "I", false)
  | 12 => ("BitRecogniser$Listing", "above", "I", false)
  | 13 => ("BitRecogniser$Listing", "rank", "J", false)
  | 14 => ("BitRecogniser$Listing", "bounds", "[I", true)
  | 15 => ("BitRecogniser$Listing", "formSymbols", "[I", true)
  | 16 => ("BitRecogniser$Listing", "formSize", "I", false)
  | 17 => ("BitRecogniser$Listing", "stampOfTree", "I", false)
  | _ => ("BitRecogniser$Listing", "listedTree", "I", false)
def go_Y3 : Nat → FieldType := fun k => match k with
  | 0 => .object "BitRecogniser$Told"
  | 1 => .object "BitRecogniser$Binary"
  | 2 => .object "BitRecogniser$Forest"
  | 3 => .array .int
  | 4 => .int
  | 5 => .array .int
  | 6 => .array .long
  | 7 => .int
  | 8 => .int
  | 9 => .int
  | 10 => .int
  | 11 => .int
  | 12 => .int
  | 13 => .long
  | 14 => .array .int
  | 15 => .array .int
  | 16 => .int
  | 17 => .int
  | _ => .int
theorem go_nm3 : ∀ a, a < 19 → ∀ b, b < 19 → a ≠ b → (go_T3 a).2.1 ≠ (go_T3 b).2.1 := by decide +kernel
theorem go_ty3 : ∀ k, k < 19 → parseFieldDescriptor (go_T3 k).2.2.1 = some (go_Y3 k) := by decide +kernel
theorem go_in3 : ∀ w ∈ u_ws go_R3 go_T3 19, w ∈ go_tbl := by decide +kernel
def go_R4 : String := "BitRecogniser$Nearest"
def go_T4 : u_T := fun k => match k with
  | 0 => ("BitRecogniser$Table", "binary", "LBitRecogniser$Binary;", true)
  | 1 => ("BitRecogniser$Table", "there", "LBitRecogniser$Chart;", true)
  | 2 => ("BitRecogniser$Table", "alike", "Z", true)
  | 3 => ("BitRecogniser$Table", "nothing", "J", true)
  | 4 => ("BitRecogniser$Table", "values", "[J", true)
  | 5 => ("BitRecogniser$Table", "fresh", "[J", true)
  | 6 => ("BitRecogniser$Table", "stampOfTable", "I", false)
  | _ => ("BitRecogniser$Nearest", "told", "LBitRecogniser$Told;", true)
def go_Y4 : Nat → FieldType := fun k => match k with
  | 0 => .object "BitRecogniser$Binary"
  | 1 => .object "BitRecogniser$Chart"
  | 2 => .boolean
  | 3 => .long
  | 4 => .array .long
  | 5 => .array .long
  | 6 => .int
  | _ => .object "BitRecogniser$Told"
theorem go_nm4 : ∀ a, a < 8 → ∀ b, b < 8 → a ≠ b → (go_T4 a).2.1 ≠ (go_T4 b).2.1 := by decide +kernel
theorem go_ty4 : ∀ k, k < 8 → parseFieldDescriptor (go_T4 k).2.2.1 = some (go_Y4 k) := by decide +kernel
theorem go_in4 : ∀ w ∈ u_ws go_R4 go_T4 8, w ∈ go_tbl := by decide +kernel
def go_R5 : String := "BitRecogniser$Past"
def go_T5 : u_T := fun k => match k with
  | 0 => ("BitRecogniser$Past", "befores", "[LBitRecogniser$Told;", true)
  | 1 => ("BitRecogniser$Past", "images", "[LBitRecogniser$Told;", true)
  | 2 => ("BitRecogniser$Past", "made", "[Z", true)
  | 3 => ("BitRecogniser$Past", "newest", "I", false)
  | _ => ("BitRecogniser$Past", "held", "I", false)
def go_Y5 : Nat → FieldType := fun k => match k with
  | 0 => .array (.object "BitRecogniser$Told")
  | 1 => .array (.object "BitRecogniser$Told")
  | 2 => .array .boolean
  | 3 => .int
  | _ => .int
theorem go_nm5 : ∀ a, a < 5 → ∀ b, b < 5 → a ≠ b → (go_T5 a).2.1 ≠ (go_T5 b).2.1 := by decide +kernel
theorem go_ty5 : ∀ k, k < 5 → parseFieldDescriptor (go_T5 k).2.2.1 = some (go_Y5 k) := by decide +kernel
theorem go_in5 : ∀ w ∈ u_ws go_R5 go_T5 5, w ∈ go_tbl := by decide +kernel
def go_R6 : String := "BitRecogniser$Rounds"
def go_T6 : u_T := fun k => match k with
  | 0 => ("BitRecogniser$Table", "binary", "LBitRecogniser$Binary;", true)
  | 1 => ("BitRecogniser$Table", "there", "LBitRecogniser$Chart;", true)
  | 2 => ("BitRecogniser$Table", "alike", "Z", true)
  | 3 => ("BitRecogniser$Table", "nothing", "J", true)
  | 4 => ("BitRecogniser$Table", "values", "[J", true)
  | 5 => ("BitRecogniser$Table", "fresh", "[J", true)
  | _ => ("BitRecogniser$Table", "stampOfTable", "I", false)
def go_Y6 : Nat → FieldType := fun k => match k with
  | 0 => .object "BitRecogniser$Binary"
  | 1 => .object "BitRecogniser$Chart"
  | 2 => .boolean
  | 3 => .long
  | 4 => .array .long
  | 5 => .array .long
  | _ => .int
theorem go_nm6 : ∀ a, a < 7 → ∀ b, b < 7 → a ≠ b → (go_T6 a).2.1 ≠ (go_T6 b).2.1 := by decide +kernel
theorem go_ty6 : ∀ k, k < 7 → parseFieldDescriptor (go_T6 k).2.2.1 = some (go_Y6 k) := by decide +kernel
theorem go_in6 : ∀ w ∈ u_ws go_R6 go_T6 7, w ∈ go_tbl := by decide +kernel
def go_R7 : String := "BitRecogniser$Tape"
def go_T7 : u_T := fun k => match k with
  | 0 => ("BitRecogniser$Tape", "bytes", "[I", true)
  | 1 => ("BitRecogniser$Tape", "held", "I", false)
  | 2 => ("BitRecogniser$Tape", "faultKind", "I", false)
  | _ => ("BitRecogniser$Tape", "faultPlace", "I", false)
def go_Y7 : Nat → FieldType := fun k => match k with
  | 0 => .array .int
  | 1 => .int
  | 2 => .int
  | _ => .int
theorem go_nm7 : ∀ a, a < 4 → ∀ b, b < 4 → a ≠ b → (go_T7 a).2.1 ≠ (go_T7 b).2.1 := by decide +kernel
theorem go_ty7 : ∀ k, k < 4 → parseFieldDescriptor (go_T7 k).2.2.1 = some (go_Y7 k) := by decide +kernel
theorem go_in7 : ∀ w ∈ u_ws go_R7 go_T7 4, w ∈ go_tbl := by decide +kernel
def go_R8 : String := "BitRecogniser$Told"
def go_T8 : u_T := fun k => match k with
  | 0 => ("BitRecogniser$Told", "rules", "[I", true)
  | 1 => ("BitRecogniser$Told", "top", "I", false)
  | 2 => ("BitRecogniser$Told", "letterCodes", "J", false)
  | _ => ("BitRecogniser$Told", "letters", "I", false)
def go_Y8 : Nat → FieldType := fun k => match k with
  | 0 => .array .int
  | 1 => .int
  | 2 => .long
  | _ => .int
theorem go_nm8 : ∀ a, a < 4 → ∀ b, b < 4 → a ≠ b → (go_T8 a).2.1 ≠ (go_T8 b).2.1 := by decide +kernel
theorem go_ty8 : ∀ k, k < 4 → parseFieldDescriptor (go_T8 k).2.2.1 = some (go_Y8 k) := by decide +kernel
theorem go_in8 : ∀ w ∈ u_ws go_R8 go_T8 4, w ∈ go_tbl := by decide +kernel
def go_R9 : String := "BitRecogniser$Vocabulary"
def go_T9 : u_T := fun k => match k with
  | 0 => ("BitRecogniser$Vocabulary", "sets", "[J", true)
  | _ => ("BitRecogniser$Vocabulary", "stampOfSets", "I", false)
def go_Y9 : Nat → FieldType := fun k => match k with
  | 0 => .array .long
  | _ => .int
theorem go_nm9 : ∀ a, a < 2 → ∀ b, b < 2 → a ≠ b → (go_T9 a).2.1 ≠ (go_T9 b).2.1 := by decide +kernel
theorem go_ty9 : ∀ k, k < 2 → parseFieldDescriptor (go_T9 k).2.2.1 = some (go_Y9 k) := by decide +kernel
theorem go_in9 : ∀ w ∈ u_ws go_R9 go_T9 2, w ∈ go_tbl := by decide +kernel
def go_R10 : String := "BitRecogniser"
def go_T10 : u_T := fun k => match k with
  | 0 => ("BitRecogniser", "tape", "LBitRecogniser$Tape;", true)
  | 1 => ("BitRecogniser", "told", "LBitRecogniser$Told;", true)
  | 2 => ("BitRecogniser", "past", "LBitRecogniser$Past;", true)
  | 3 => ("BitRecogniser", "binary", "LBitRecogniser$Binary;", true)
  | 4 => ("BitRecogniser", "chart", "LBitRecogniser$Chart;", true)
  | 5 => ("BitRecogniser", "roundTable", "LBitRecogniser$Rounds;", true)
  | 6 => ("BitRecogniser", "forest", "LBitRecogniser$Forest;", true)
  | 7 => ("BitRecogniser", "listing", "LBitRecogniser$Listing;", true)
  | 8 => ("BitRecogniser", "anyWord", "LBitRecogniser$Chart;", true)
  | 9 => ("BitRecogniser", "anyForest", "LBitRecogniser$Forest;", true)
  | 10 => ("BitRecogniser", "nearest", "LBitRecogniser$Nearest;", true)
  | 11 => ("BitRecogniser", "vocabulary", "LBitRecogniser$Vocabulary;", true)
  | 12 => ("BitRecogniser", "spareBinary", "LBitRecogniser$Binary;", true)
  | 13 => ("BitRecogniser", "spareChart", "LBitRecogniser$Chart;", true)
  | 14 => ("BitRecogniser", "trayLongs", "[J", true)
  | 15 => ("BitRecogniser", "traySizes", "[I", true)
  | 16 => ("BitRecogniser", "stamp", "I", false)
  | _ => ("BitRecogniser", "builtStamp", "I", false)
def go_Y10 : Nat → FieldType := fun k => match k with
  | 0 => .object "BitRecogniser$Tape"
  | 1 => .object "BitRecogniser$Told"
  | 2 => .object "BitRecogniser$Past"
  | 3 => .object "BitRecogniser$Binary"
  | 4 => .object "BitRecogniser$Chart"
  | 5 => .object "BitRecogniser$Rounds"
  | 6 => .object "BitRecogniser$Forest"
  | 7 => .object "BitRecogniser$Listing"
  | 8 => .object "BitRecogniser$Chart"
  | 9 => .object "BitRecogniser$Forest"
  | 10 => .object "BitRecogniser$Nearest"
  | 11 => .object "BitRecogniser$Vocabulary"
  | 12 => .object "BitRecogniser$Binary"
  | 13 => .object "BitRecogniser$Chart"
  | 14 => .array .long
  | 15 => .array .int
  | 16 => .int
  | _ => .int
theorem go_nm10 : ∀ a, a < 18 → ∀ b, b < 18 → a ≠ b → (go_T10 a).2.1 ≠ (go_T10 b).2.1 := by decide +kernel
theorem go_ty10 : ∀ k, k < 18 → parseFieldDescriptor (go_T10 k).2.2.1 = some (go_Y10 k) := by decide +kernel
theorem go_in10 : ∀ w ∈ u_ws go_R10 go_T10 18, w ∈ go_tbl := by decide +kernel
def go_R11 : String := "BitRecogniserModel"
def go_T11 : u_T := fun k => match k with
  | 0 => ("BitRecogniserModel", "thrown", "I", false)
  | 1 => ("BitRecogniserModel", "all", "[I", true)
  | 2 => ("BitRecogniserModel", "deeds", "[I", true)
  | 3 => ("BitRecogniserModel", "deedMany", "I", false)
  | 4 => ("BitRecogniserModel", "hasImage", "[Z", true)
  | 5 => ("BitRecogniserModel", "tape", "[I", true)
  | 6 => ("BitRecogniserModel", "taped", "I", false)
  | 7 => ("BitRecogniserModel", "faultKind", "I", false)
  | 8 => ("BitRecogniserModel", "faultPlace", "I", false)
  | 9 => ("BitRecogniserModel", "pairOf", "[I", true)
  | 10 => ("BitRecogniserModel", "pairOne", "[I", true)
  | 11 => ("BitRecogniserModel", "pairOther", "[I", true)
  | 12 => ("BitRecogniserModel", "pairRule", "[I", true)
  | 13 => ("BitRecogniserModel", "helperRule", "[I", true)
  | 14 => ("BitRecogniserModel", "helperAt", "[I", true)
  | 15 => ("BitRecogniserModel", "pairMany", "I", false)
  | 16 => ("BitRecogniserModel", "helperMany", "I", false)
  | 17 => ("BitRecogniserModel", "leastOf", "[I", true)
  | 18 => ("BitRecogniserModel", "row", "[I", true)
  | 19 => ("BitRecogniserModel", "cellOf", "[J", true)
  | 20 => ("BitRecogniserModel", "isLaid", "Z", false)
  | 21 => ("BitRecogniserModel", "before", "[J", true)
  | 22 => ("BitRecogniserModel", "behind", "[J", true)
  | 23 => ("BitRecogniserModel", "ground", "[J", true)
  | 24 => ("BitRecogniserModel", "trees", "[J", true)
  | 25 => ("BitRecogniserModel", "fit", "[J", true)
  | 26 => ("BitRecogniserModel", "pathsTo", "[J", true)
  | 27 => ("BitRecogniserModel", "pathMany", "[J", true)
  | 28 => ("BitRecogniserModel", "nodeRule", "[I", true)
  | 29 => ("BitRecogniserModel", "nodeFrom", "[I", true)
  | 30 => ("BitRecogniserModel", "nodeTo", "[I", true)
  | 31 => ("BitRecogniserModel", "nodeUp", "[I", true)
  | 32 => ("BitRecogniserModel", "nodeDeep", "[I", true)
  | 33 => ("BitRecogniserModel", "waits", "[I", true)
  | 34 => ("BitRecogniserModel", "ends", "[I", true)
  | 35 => ("BitRecogniserModel", "nodeMany", "I", false)
  | 36 => ("BitRecogniserModel", "waitMany", "I", false)
  | 37 => ("BitRecogniserModel", "number", "J", false)
  | 38 => ("BitRecogniserModel", "numbers", "[J", true)
  | 39 => ("BitRecogniserModel", "waitNumber", "[J", true)
  | 40 => ("BitRecogniserModel", "formNow", "[I", true)
  | 41 => ("BitRecogniserModel", "formMany", "I", false)
  | 42 => ("BitRecogniserModel", "piecesFrom", "[I", true)
  | 43 => ("BitRecogniserModel", "costs", "[I", true)
  | 44 => ("BitRecogniserModel", "must", "[I", true)
  | 45 => ("BitRecogniserModel", "canBegin", "[Z", true)
  | 46 => ("BitRecogniserModel", "canReach", "[Z", true)
  | 47 => ("BitRecogniserModel", "lengthsOf", "[I", true)
  | 48 => ("BitRecogniserModel", "groundBy", "[J", true)
  | 49 => ("BitRecogniserModel", "treesBy", "[J", true)
  | 50 => ("BitRecogniserModel", "restBy", "[J", true)
  | 51 => ("BitRecogniserModel", "trays", "[J", true)
  | _ => ("BitRecogniserModel", "trayLong", "[I", true)
def go_Y11 : Nat → FieldType := fun k => match k with
  | 0 => .int
  | 1 => .array .int
  | 2 => .array .int
  | 3 => .int
  | 4 => .array .boolean
  | 5 => .array .int
  | 6 => .int
  | 7 => .int
  | 8 => .int
  | 9 => .array .int
  | 10 => .array .int
  | 11 => .array .int
  | 12 => .array .int
  | 13 => .array .int
  | 14 => .array .int
  | 15 => .int
  | 16 => .int
  | 17 => .array .int
  | 18 => .array .int
  | 19 => .array .long
  | 20 => .boolean
  | 21 => .array .long
  | 22 => .array .long
  | 23 => .array .long
  | 24 => .array .long
  | 25 => .array .long
  | 26 => .array .long
  | 27 => .array .long
  | 28 => .array .int
  | 29 => .array .int
  | 30 => .array .int
  | 31 => .array .int
  | 32 => .array .int
  | 33 => .array .int
  | 34 => .array .int
  | 35 => .int
  | 36 => .int
  | 37 => .long
  | 38 => .array .long
  | 39 => .array .long
  | 40 => .array .int
  | 41 => .int
  | 42 => .array .int
  | 43 => .array .int
  | 44 => .array .int
  | 45 => .array .boolean
  | 46 => .array .boolean
  | 47 => .array .int
  | 48 => .array .long
  | 49 => .array .long
  | 50 => .array .long
  | 51 => .array .long
  | _ => .array .int
theorem go_nm11 : ∀ a, a < 53 → ∀ b, b < 53 → a ≠ b → (go_T11 a).2.1 ≠ (go_T11 b).2.1 := by decide +kernel
theorem go_ty11 : ∀ k, k < 53 → parseFieldDescriptor (go_T11 k).2.2.1 = some (go_Y11 k) := by decide +kernel
theorem go_in11 : ∀ w ∈ u_ws go_R11 go_T11 53, w ∈ go_tbl := by decide +kernel
def go_cl : List vw_C := [(go_R0, go_T0, 14), (go_R1, go_T1, 7), (go_R2, go_T2, 8), (go_R3, go_T3, 19), (go_R4, go_T4, 8), (go_R5, go_T5, 5), (go_R6, go_T6, 7), (go_R7, go_T7, 4), (go_R8, go_T8, 4), (go_R9, go_T9, 2), (go_R10, go_T10, 18), (go_R11, go_T11, 53)]
def go_Y : Nat → Nat → FieldType := fun c => match c with
  | 0 => go_Y0
  | 1 => go_Y1
  | 2 => go_Y2
  | 3 => go_Y3
  | 4 => go_Y4
  | 5 => go_Y5
  | 6 => go_Y6
  | 7 => go_Y7
  | 8 => go_Y8
  | 9 => go_Y9
  | 10 => go_Y10
  | _ => go_Y11
/-- the kinds of fields: 0 an int, 1 a long, 2 a reference, 3 a boolean -/
def go_tgs : List (List Nat) := [[2, 0, 2, 2, 2, 0, 2, 2, 0, 2, 2, 1, 2, 2], [3, 2, 2, 2, 2, 0, 0], [2, 2, 3, 1, 2, 2, 0, 2], [2, 2, 2, 2, 0, 2, 2, 0, 0, 0, 0, 0, 0, 1, 2, 2, 0, 0, 0], [2, 2, 3, 1, 2, 2, 0, 2], [2, 2, 2, 0, 0], [2, 2, 3, 1, 2, 2, 0], [2, 0, 0, 0], [2, 0, 1, 0], [2, 0], [2, 2, 2, 2, 2, 2, 2, 2, 2, 2, 2, 2, 2, 2, 2, 2, 0, 0], [0, 2, 2, 0, 2, 2, 0, 0, 0, 2, 2, 2, 2, 2, 2, 0, 0, 2, 2, 2, 3, 2, 2, 2, 2, 2, 2, 2, 2, 2, 2, 2, 2, 2, 2, 0, 0, 1, 2, 2, 2, 0, 2, 2, 2, 2, 2, 2, 2, 2, 2, 2, 2]]
def go_tg (c k : Nat) : Nat := (go_tgs.getD c []).getD k 0
/-- the kinds of cells: below 20 an object of that class; 20 ints, 21 longs, 22 booleans, 23 references -/
def go_kds : List Nat := [10, 7, 20, 8, 20, 5, 23, 8, 20, 8, 20, 8, 20, 8, 20, 8, 20, 8, 20, 8, 20, 8, 20, 8, 20, 8, 20, 23, 8, 20, 8, 20, 22, 0, 20, 20, 20, 20, 20, 20, 20, 20, 20, 20, 1, 20, 21, 20, 21, 6, 21, 21, 2, 21, 21, 21, 3, 20, 20, 21, 20, 20, 1, 20, 21, 20, 21, 2, 21, 21, 21, 4, 21, 21, 9, 21, 0, 20, 20, 20, 20, 20, 20, 20, 20, 20, 20, 1, 20, 21, 20, 21, 21, 20, 11, 20, 20, 22, 20, 20, 20, 20, 20, 20, 20, 20, 20, 21, 21, 21, 21, 21, 21, 21, 21, 20, 20, 20, 20, 20, 20, 20, 21, 21, 20, 20, 20, 20, 22, 22, 20, 21, 21, 21, 21, 20]
def go_lns : List Nat := [18, 4, 40, 4, 16, 5, 10, 4, 16, 4, 16, 4, 16, 4, 16, 4, 16, 4, 16, 4, 16, 4, 16, 4, 16, 4, 16, 2, 4, 16, 4, 16, 2, 14, 64, 16, 48, 48, 8, 8, 8, 62, 64, 8, 7, 14, 105, 15, 15, 7, 6510, 62, 8, 6510, 62, 840, 19, 1080, 95, 19, 6, 19, 7, 14, 14, 15, 15, 8, 868, 62, 112, 8, 6510, 62, 2, 1674, 14, 64, 16, 48, 48, 8, 8, 8, 62, 64, 8, 7, 14, 105, 15, 15, 60, 3, 53, 384, 1280, 2, 40, 64, 64, 64, 64, 48, 48, 14, 15, 256, 256, 256, 2048, 2048, 96, 2048, 8, 240, 240, 240, 240, 240, 400, 6, 5, 80, 20, 16, 15872, 14, 128, 16, 14, 128, 128, 96, 60, 3]
def go_kd (a : Nat) : Nat := go_kds.getD a 99
def go_ln (a : Nat) : Nat := go_lns.getD a 0
/-- the references behind the constructors: one more than the number of the cell, 0 for none -/
def go_rfs : List (List Nat) := [[2, 4, 6, 34, 45, 50, 53, 57, 63, 68, 72, 75, 77, 88, 93, 94], [3], [], [5], [], [7, 28, 33], [8, 10, 12, 14, 16, 18, 20, 22, 24, 26], [9], [], [11], [], [13], [], [15], [], [17], [], [19], [], [21], [], [23], [], [25], [], [27], [], [29, 31], [30], [], [32], [], [], [35, 0, 36, 37, 38, 0, 39, 40, 0, 41, 42, 0, 43, 44], [], [], [], [], [], [], [], [], [], [], [0, 46, 47, 48, 49], [], [], [], [], [34, 45, 0, 0, 51, 52], [], [], [34, 45, 0, 0, 54, 55, 0, 56], [], [], [], [4, 34, 53, 58, 0, 59, 60, 0, 0, 0, 0, 0, 0, 0, 61, 62], [], [], [], [], [], [0, 64, 65, 66, 67], [], [], [], [], [34, 63, 0, 0, 69, 70, 0, 71], [], [], [], [34, 63, 0, 0, 73, 74, 0, 4], [], [], [76], [], [78, 0, 79, 80, 81, 0, 82, 83, 0, 84, 85, 0, 86, 87], [], [], [], [], [], [], [], [], [], [], [0, 89, 90, 91, 92], [], [], [], [], [], [], [0, 96, 97, 0, 98, 99, 0, 0, 0, 100, 101, 102, 103, 104, 105, 0, 0, 106, 107, 108, 0, 109, 110, 111, 112, 113, 114, 115, 116, 117, 118, 119, 120, 121, 122, 0, 0, 0, 123, 124, 125, 0, 126, 127, 128, 129, 130, 131, 132, 133, 134, 135, 136], [], [], [], [], [], [], [], [], [], [], [], [], [], [], [], [], [], [], [], [], [], [], [], [], [], [], [], [], [], [], [], [], [], [], [], [], [], [], [], [], []]
def go_rf (a k : Nat) : Nat := (go_rfs.getD a []).getD k 0
def go_tag (t : FieldType) : Nat := match t with
  | .int => 0
  | .long => 1
  | .boolean => 3
  | _ => 2
/-- what the tables say of a class of ours -/
def go_CF (ci : Nat) (C : String) (T : u_T) (N : Nat) : Prop := (∀ w ∈ u_ws C T N, w ∈ go_tbl) ∧ (∀ k, k < N → parseFieldDescriptor (T k).2.2.1 = some (go_Y ci k)) ∧ (∀ a, a < N → ∀ b, b < N → a ≠ b → (T a).2.1 ≠ (T b).2.1) ∧ (∀ k, k < N → go_tag (go_Y ci k) = go_tg ci k)
theorem go_cf0 : go_CF 0 go_R0 go_T0 14 := ⟨go_in0, go_ty0, go_nm0, by decide +kernel⟩
theorem go_cf1 : go_CF 1 go_R1 go_T1 7 := ⟨go_in1, go_ty1, go_nm1, by decide +kernel⟩
theorem go_cf2 : go_CF 2 go_R2 go_T2 8 := ⟨go_in2, go_ty2, go_nm2, by decide +kernel⟩
theorem go_cf3 : go_CF 3 go_R3 go_T3 19 := ⟨go_in3, go_ty3, go_nm3, by decide +kernel⟩
theorem go_cf4 : go_CF 4 go_R4 go_T4 8 := ⟨go_in4, go_ty4, go_nm4, by decide +kernel⟩
theorem go_cf5 : go_CF 5 go_R5 go_T5 5 := ⟨go_in5, go_ty5, go_nm5, by decide +kernel⟩
theorem go_cf6 : go_CF 6 go_R6 go_T6 7 := ⟨go_in6, go_ty6, go_nm6, by decide +kernel⟩
theorem go_cf7 : go_CF 7 go_R7 go_T7 4 := ⟨go_in7, go_ty7, go_nm7, by decide +kernel⟩
theorem go_cf8 : go_CF 8 go_R8 go_T8 4 := ⟨go_in8, go_ty8, go_nm8, by decide +kernel⟩
theorem go_cf9 : go_CF 9 go_R9 go_T9 2 := ⟨go_in9, go_ty9, go_nm9, by decide +kernel⟩
theorem go_cf10 : go_CF 10 go_R10 go_T10 18 := ⟨go_in10, go_ty10, go_nm10, by decide +kernel⟩
theorem go_cf11 : go_CF 11 go_R11 go_T11 53 := ⟨go_in11, go_ty11, go_nm11, by decide +kernel⟩
theorem go_cf {ci : Nat} {C : String} {T : u_T} {N : Nat} (h : go_cl[ci]? = some (C, T, N)) : go_CF ci C T N := by
  match ci, h with
  | 0, h => cases h; exact go_cf0
  | 1, h => cases h; exact go_cf1
  | 2, h => cases h; exact go_cf2
  | 3, h => cases h; exact go_cf3
  | 4, h => cases h; exact go_cf4
  | 5, h => cases h; exact go_cf5
  | 6, h => cases h; exact go_cf6
  | 7, h => cases h; exact go_cf7
  | 8, h => cases h; exact go_cf8
  | 9, h => cases h; exact go_cf9
  | 10, h => cases h; exact go_cf10
  | 11, h => cases h; exact go_cf11
  | k + 12, h => simp [go_cl] at h
theorem go_ln_obj : ∀ a, a < 136 → go_kd a < 20 → (go_cl[go_kd a]?).map (fun q => q.2.2) = some (go_ln a) := by decide +kernel
theorem go_kd_out {a : Nat} (h : go_kd a < 99) : a < 136 := by
  rcases Nat.lt_or_ge a 136 with q | q
  · exact q
  · have : go_kd a = 99 := by
      unfold go_kd
      rw [List.getD_eq_getElem?_getD, List.getElem?_eq_none (by show go_kds.length ≤ a; exact q)]
      rfl
    omega
def go_N : Nat := 136
