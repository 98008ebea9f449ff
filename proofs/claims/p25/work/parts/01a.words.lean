-- ===== PART A: goes FIRST, ahead of the names: the tables' words, and 'selects' of the private methods out of them =====
/-- a private method of a class that the tables say can be made, by its rows of tables_1 -/
def lw_okq (q : MethodName × Nat) : Prop := (q.1.cls ≠ "java/lang/invoke/MethodHandle" ∧ q.1.cls ≠ "java/lang/invoke/VarHandle") ∧ Cond.instantiable q.1.cls q.2 ∈ tables_1 ∧ Cond.privateMethod q.1 ∈ tables_1 ∧ Cond.instanceMethod q.1 ∈ tables_1
def lw_privs : List (MethodName × Nat) := []
def lw_tbl : List Cond := k2_sels lw_privs ++ tables_1
theorem lw_privs_ok : ∀ q ∈ lw_privs, lw_okq q := fun _ h => absurd h List.not_mem_nil
/-! ===== BEGIN words of one list among another's, by their places ===== -/
theorem goodIn_r {big : List Cond} (ws : List Cond) (ps : List Nat) (hp : ws = ps.filterMap (fun i => big[i]?)) (h : ws.all goodWord = true) : GoodIn big ws := by
  intro w hw
  have h1 := List.all_eq_true.mp h w hw
  rw [hp] at hw
  obtain ⟨i, -, hi⟩ := List.mem_filterMap.mp hw
  have hm : w ∈ big := by first | exact List.mem_of_getElem? hi | exact List.getElem?_mem hi
  exact ⟨hm, good_of_word h1⟩
theorem goodIn_app {big a b : List Cond} (ha : GoodIn big a) (hb : GoodIn big b) : GoodIn big (a ++ b) := fun w h => (List.mem_append.mp h).elim (ha w) (hb w)
theorem goodIn_ca {big a b : List Cond} {c : Cond} (ha : GoodIn big (c :: a)) (hb : GoodIn big b) : GoodIn big (c :: (a ++ b)) := fun w h => (List.mem_cons.mp h).elim (fun e => ha w (List.mem_cons.mpr (Or.inl e))) (fun h => (List.mem_append.mp h).elim (fun h => ha w (List.mem_cons.mpr (Or.inr h))) (hb w))
theorem goodIn_sub {big ws : List Cond} (hm : ∀ w ∈ ws, w ∈ big) (h : ws.all goodWord = true) : GoodIn big ws := fun w hw => ⟨hm w hw, good_of_word (List.all_eq_true.mp h w hw)⟩
/-! ===== END ===== -/


/-! ===== BEGIN printed: names, fields, word lists, decode rows ===== -/
def RX0 : String := "RayGround$Fitting"
def TX0 : u_T := fun k => match k with
  | 0 => ("RayGround$Fitting", "pointsOf", "[I", true)
  | 1 => ("RayGround$Fitting", "left", "[[J", true)
  | 2 => ("RayGround$Fitting", "right", "[J", true)
  | _ => ("RayGround$Fitting", "found", "[I", true)
def tyX0 : Nat → FieldType := fun k => match k with
  | 0 => .array .int
  | 1 => .array (.array .long)
  | 2 => .array .long
  | _ => .array .int
abbrev wsX00 : List Cond := u_ws RX0 TX0 4
theorem nmX0 : ∀ a, a < 4 → ∀ b, b < 4 → a ≠ b → (TX0 a).2.1 ≠ (TX0 b).2.1 := by decide +kernel
theorem tyX0_ok : ∀ k, k < 4 → parseFieldDescriptor (TX0 k).2.2.1 = some (tyX0 k) := by decide +kernel
abbrev cX0_init : ByteArray := prog_2_method_1_code
def yX0_init : MethodName := ⟨RX0, "<init>", "()V"⟩
def RX1 : String := "RayGround$Grid"
def TX1 : u_T := fun k => match k with
  | _ => ("RayGround$Grid", "cells", "[I", true)
def tyX1 : Nat → FieldType := fun k => match k with
  | _ => .array .int
abbrev wsX10 : List Cond := u_ws RX1 TX1 1
theorem nmX1 : ∀ a, a < 1 → ∀ b, b < 1 → a ≠ b → (TX1 a).2.1 ≠ (TX1 b).2.1 := by decide +kernel
theorem tyX1_ok : ∀ k, k < 1 → parseFieldDescriptor (TX1 k).2.2.1 = some (tyX1 k) := by decide +kernel
abbrev cX1_init : ByteArray := prog_3_method_1_code
def yX1_init : MethodName := ⟨RX1, "<init>", "()V"⟩
abbrev cX1_measure : ByteArray := prog_3_method_2_code
def yX1_measure : MethodName := ⟨RX1, "measure", "(LRayGround$Year;)V"⟩
abbrev cX1_at : ByteArray := prog_3_method_3_code
def yX1_at : MethodName := ⟨RX1, "at", "(II)I"⟩
abbrev cX1_isFilled : ByteArray := prog_3_method_4_code
def yX1_isFilled : MethodName := ⟨RX1, "isFilled", "(II)Z"⟩
abbrev cX1_isQuad : ByteArray := prog_3_method_5_code
def yX1_isQuad : MethodName := ⟨RX1, "isQuad", "(II)Z"⟩
abbrev cX1_countFilled : ByteArray := prog_3_method_6_code
def yX1_countFilled : MethodName := ⟨RX1, "countFilled", "()I"⟩
abbrev cX1_countThirds : ByteArray := prog_3_method_7_code
def yX1_countThirds : MethodName := ⟨RX1, "countThirds", "()I"⟩
abbrev cX1_volumeAbove : ByteArray := prog_3_method_8_code
def yX1_volumeAbove : MethodName := ⟨RX1, "volumeAbove", "(I)J"⟩
abbrev cX1_sumOfBoth : ByteArray := prog_3_method_9_code
def yX1_sumOfBoth : MethodName := ⟨RX1, "sumOfBoth", "(II)I"⟩
abbrev cX1_bothFilled : ByteArray := prog_3_method_10_code
def yX1_bothFilled : MethodName := ⟨RX1, "bothFilled", "(LRayGround$Grid;I)Z"⟩
abbrev cX1_countBoth : ByteArray := prog_3_method_11_code
def yX1_countBoth : MethodName := ⟨RX1, "countBoth", "(LRayGround$Grid;)I"⟩
abbrev cX1_countRisen : ByteArray := prog_3_method_12_code
def yX1_countRisen : MethodName := ⟨RX1, "countRisen", "(LRayGround$Grid;I)I"⟩
abbrev cX1_sumOfRises : ByteArray := prog_3_method_13_code
def yX1_sumOfRises : MethodName := ⟨RX1, "sumOfRises", "(LRayGround$Grid;)I"⟩
def RX2 : String := "RayGround$JobText"
def TX2 : u_T := fun k => match k with
  | 0 => ("RayGround$JobText", "letter", "[C", true)
  | 1 => ("RayGround$JobText", "first", "[I", true)
  | 2 => ("RayGround$JobText", "second", "[I", true)
  | 3 => ("RayGround$JobText", "third", "[I", true)
  | 4 => ("RayGround$JobText", "steps", "I", false)
  | 5 => ("RayGround$JobText", "bytes", "[C", false)
  | 6 => ("RayGround$JobText", "size", "I", false)
  | 7 => ("RayGround$JobText", "at", "I", false)
  | _ => ("RayGround$JobText", "faulty", "Z", false)
def tyX2 : Nat → FieldType := fun k => match k with
  | 0 => .array .char
  | 1 => .array .int
  | 2 => .array .int
  | 3 => .array .int
  | 4 => .int
  | 5 => .array .char
  | 6 => .int
  | 7 => .int
  | _ => .boolean
abbrev wsX20 : List Cond := u_ws RX2 TX2 9
theorem nmX2 : ∀ a, a < 9 → ∀ b, b < 9 → a ≠ b → (TX2 a).2.1 ≠ (TX2 b).2.1 := by decide +kernel
theorem tyX2_ok : ∀ k, k < 9 → parseFieldDescriptor (TX2 k).2.2.1 = some (tyX2 k) := by decide +kernel
abbrev cX2_init : ByteArray := prog_4_method_1_code
def yX2_init : MethodName := ⟨RX2, "<init>", "()V"⟩
def RX3 : String := "RayGround$LineWalk"
def TX3 : u_T := fun k => match k with
  | 0 => ("RayGround$LineWalk", "seen", "[Z", true)
  | 1 => ("RayGround$LineWalk", "queue", "[I", true)
  | _ => ("RayGround$LineWalk", "queued", "I", false)
def tyX3 : Nat → FieldType := fun k => match k with
  | 0 => .array .boolean
  | 1 => .array .int
  | _ => .int
abbrev wsX30 : List Cond := u_ws RX3 TX3 3
theorem nmX3 : ∀ a, a < 3 → ∀ b, b < 3 → a ≠ b → (TX3 a).2.1 ≠ (TX3 b).2.1 := by decide +kernel
theorem tyX3_ok : ∀ k, k < 3 → parseFieldDescriptor (TX3 k).2.2.1 = some (tyX3 k) := by decide +kernel
abbrev cX3_init : ByteArray := prog_5_method_1_code
def yX3_init : MethodName := ⟨RX3, "<init>", "()V"⟩
abbrev cX3_countLines : ByteArray := prog_5_method_2_code
def yX3_countLines : MethodName := ⟨RX3, "countLines", "(LRayGround$Grid;IZ)I"⟩
abbrev cX3_walkFrom : ByteArray := prog_5_method_3_code
def yX3_walkFrom : MethodName := ⟨RX3, "walkFrom", "(LRayGround$Grid;II)Z"⟩
abbrev cX3_enqueue : ByteArray := prog_5_method_4_code
def yX3_enqueue : MethodName := ⟨RX3, "enqueue", "(I)V"⟩
abbrev cX3_isCrossed : ByteArray := prog_5_method_5_code
def yX3_isCrossed : MethodName := ⟨RX3, "isCrossed", "(LRayGround$Grid;II)Z"⟩
abbrev cX3_isEdgeCrossed : ByteArray := prog_5_method_6_code
def yX3_isEdgeCrossed : MethodName := ⟨RX3, "isEdgeCrossed", "(LRayGround$Grid;III)Z"⟩
abbrev cX3_isAbove : ByteArray := prog_5_method_7_code
def yX3_isAbove : MethodName := ⟨RX3, "isAbove", "(LRayGround$Grid;III)Z"⟩
abbrev cX3_beyond : ByteArray := prog_5_method_8_code
def yX3_beyond : MethodName := ⟨RX3, "beyond", "(LRayGround$Grid;II)I"⟩
abbrev cX3_thirdAt : ByteArray := prog_5_method_9_code
def yX3_thirdAt : MethodName := ⟨RX3, "thirdAt", "(LRayGround$Grid;III)I"⟩
abbrev cX3_column : ByteArray := prog_5_method_10_code
def yX3_column : MethodName := ⟨RX3, "column", "(I)I"⟩
abbrev cX3_row : ByteArray := prog_5_method_11_code
def yX3_row : MethodName := ⟨RX3, "row", "(I)I"⟩
abbrev cX3_isUpper : ByteArray := prog_5_method_12_code
def yX3_isUpper : MethodName := ⟨RX3, "isUpper", "(I)Z"⟩
def RX4 : String := "RayGround$RoofFinder"
def TX4 : u_T := fun k => match k with
  | 0 => ("RayGround$RoofFinder", "number", "[I", true)
  | 1 => ("RayGround$RoofFinder", "x", "[I", true)
  | 2 => ("RayGround$RoofFinder", "y", "[I", true)
  | 3 => ("RayGround$RoofFinder", "height", "[I", true)
  | 4 => ("RayGround$RoofFinder", "size", "I", false)
  | 5 => ("RayGround$RoofFinder", "base", "I", false)
  | 6 => ("RayGround$RoofFinder", "normalX", "J", false)
  | 7 => ("RayGround$RoofFinder", "normalY", "J", false)
  | 8 => ("RayGround$RoofFinder", "normalH", "J", false)
  | 9 => ("RayGround$RoofFinder", "bestCount", "I", false)
  | 10 => ("RayGround$RoofFinder", "bestI", "I", false)
  | 11 => ("RayGround$RoofFinder", "bestJ", "I", false)
  | _ => ("RayGround$RoofFinder", "bestK", "I", false)
def tyX4 : Nat → FieldType := fun k => match k with
  | 0 => .array .int
  | 1 => .array .int
  | 2 => .array .int
  | 3 => .array .int
  | 4 => .int
  | 5 => .int
  | 6 => .long
  | 7 => .long
  | 8 => .long
  | 9 => .int
  | 10 => .int
  | 11 => .int
  | _ => .int
abbrev wsX40 : List Cond := u_ws RX4 TX4 13
theorem nmX4 : ∀ a, a < 13 → ∀ b, b < 13 → a ≠ b → (TX4 a).2.1 ≠ (TX4 b).2.1 := by decide +kernel
theorem tyX4_ok : ∀ k, k < 13 → parseFieldDescriptor (TX4 k).2.2.1 = some (tyX4 k) := by decide +kernel
abbrev cX4_init : ByteArray := prog_6_method_1_code
def yX4_init : MethodName := ⟨RX4, "<init>", "()V"⟩
def RX5 : String := "RayGround$Sheet"
def TX5 : u_T := fun k => match k with
  | 0 => ("RayGround$Sheet", "items", "[I", true)
  | 1 => ("RayGround$Sheet", "lane", "I", false)
  | _ => ("RayGround$Sheet", "size", "I", false)
def tyX5 : Nat → FieldType := fun k => match k with
  | 0 => .array .int
  | 1 => .int
  | _ => .int
abbrev wsX50 : List Cond := u_ws RX5 TX5 3
theorem nmX5 : ∀ a, a < 3 → ∀ b, b < 3 → a ≠ b → (TX5 a).2.1 ≠ (TX5 b).2.1 := by decide +kernel
theorem tyX5_ok : ∀ k, k < 3 → parseFieldDescriptor (TX5 k).2.2.1 = some (tyX5 k) := by decide +kernel
abbrev cX5_init : ByteArray := prog_7_method_1_code
def yX5_init : MethodName := ⟨RX5, "<init>", "()V"⟩
abbrev cX5_holds : ByteArray := prog_7_method_2_code
def yX5_holds : MethodName := ⟨RX5, "holds", "()Z"⟩
abbrev cX5_renew : ByteArray := prog_7_method_4_code
def yX5_renew : MethodName := ⟨RX5, "renew", "(II)V"⟩
abbrev cX5_hasRange : ByteArray := prog_7_method_5_code
def yX5_hasRange : MethodName := ⟨RX5, "hasRange", "(II)Z"⟩
abbrev cX5_put : ByteArray := prog_7_method_6_code
def yX5_put : MethodName := ⟨RX5, "put", "(II)V"⟩
def RX6 : String := "RayGround$Tape"
def TX6 : u_T := fun k => match k with
  | 0 => ("RayGround$Tape", "bytes", "[C", true)
  | _ => ("RayGround$Tape", "size", "I", false)
def tyX6 : Nat → FieldType := fun k => match k with
  | 0 => .array .char
  | _ => .int
abbrev wsX60 : List Cond := u_ws RX6 TX6 2
theorem nmX6 : ∀ a, a < 2 → ∀ b, b < 2 → a ≠ b → (TX6 a).2.1 ≠ (TX6 b).2.1 := by decide +kernel
theorem tyX6_ok : ∀ k, k < 2 → parseFieldDescriptor (TX6 k).2.2.1 = some (tyX6 k) := by decide +kernel
abbrev cX6_init : ByteArray := prog_8_method_1_code
def yX6_init : MethodName := ⟨RX6, "<init>", "()V"⟩
def RX7 : String := "RayGround$Year"
def TX7 : u_T := fun k => match k with
  | 0 => ("RayGround$Year", "x", "[I", true)
  | 1 => ("RayGround$Year", "y", "[I", true)
  | 2 => ("RayGround$Year", "z", "[I", true)
  | 3 => ("RayGround$Year", "strip", "[I", true)
  | 4 => ("RayGround$Year", "kind", "[I", true)
  | 5 => ("RayGround$Year", "byHand", "[I", true)
  | 6 => ("RayGround$Year", "round", "[I", true)
  | 7 => ("RayGround$Year", "shifts", "[I", true)
  | 8 => ("RayGround$Year", "lost", "[Z", true)
  | _ => ("RayGround$Year", "size", "I", false)
def tyX7 : Nat → FieldType := fun k => match k with
  | 0 => .array .int
  | 1 => .array .int
  | 2 => .array .int
  | 3 => .array .int
  | 4 => .array .int
  | 5 => .array .int
  | 6 => .array .int
  | 7 => .array .int
  | 8 => .array .boolean
  | _ => .int
abbrev wsX70 : List Cond := u_ws RX7 TX7 10
theorem nmX7 : ∀ a, a < 10 → ∀ b, b < 10 → a ≠ b → (TX7 a).2.1 ≠ (TX7 b).2.1 := by decide +kernel
theorem tyX7_ok : ∀ k, k < 10 → parseFieldDescriptor (TX7 k).2.2.1 = some (tyX7 k) := by decide +kernel
abbrev cX7_init : ByteArray := prog_9_method_1_code
def yX7_init : MethodName := ⟨RX7, "<init>", "()V"⟩
abbrev cX7_hasPoint : ByteArray := prog_9_method_2_code
def yX7_hasPoint : MethodName := ⟨RX7, "hasPoint", "(I)Z"⟩
abbrev cX7_height : ByteArray := prog_9_method_3_code
def yX7_height : MethodName := ⟨RX7, "height", "(I)I"⟩
abbrev cX7_square : ByteArray := prog_9_method_4_code
def yX7_square : MethodName := ⟨RX7, "square", "(I)I"⟩
abbrev cX7_canTake : ByteArray := prog_9_method_5_code
def yX7_canTake : MethodName := ⟨RX7, "canTake", "([III)Z"⟩
abbrev cX7_isPoint : ByteArray := prog_9_method_6_code
def yX7_isPoint : MethodName := ⟨RX7, "isPoint", "(IIII)Z"⟩
abbrev cX7_take : ByteArray := prog_9_method_7_code
def yX7_take : MethodName := ⟨RX7, "take", "([III)V"⟩
abbrev cX7_settle : ByteArray := prog_9_method_8_code
def yX7_settle : MethodName := ⟨RX7, "settle", "(III)V"⟩
abbrev cX7_countKind : ByteArray := prog_9_method_13_code
def yX7_countKind : MethodName := ⟨RX7, "countKind", "(I)I"⟩
abbrev cX7_countLost : ByteArray := prog_9_method_14_code
def yX7_countLost : MethodName := ⟨RX7, "countLost", "()I"⟩
abbrev cX7_growGround : ByteArray := prog_9_method_17_code
def yX7_growGround : MethodName := ⟨RX7, "growGround", "(III)I"⟩
abbrev cX7_startFromSeeds : ByteArray := prog_9_method_18_code
def yX7_startFromSeeds : MethodName := ⟨RX7, "startFromSeeds", "()V"⟩
abbrev cX7_lowestOf : ByteArray := prog_9_method_19_code
def yX7_lowestOf : MethodName := ⟨RX7, "lowestOf", "(I)I"⟩
abbrev cX7_spread : ByteArray := prog_9_method_20_code
def yX7_spread : MethodName := ⟨RX7, "spread", "(IIII)Z"⟩
abbrev cX7_isReached : ByteArray := prog_9_method_21_code
def yX7_isReached : MethodName := ⟨RX7, "isReached", "(IIIII)Z"⟩
abbrev cX7_squareOfWay : ByteArray := prog_9_method_22_code
def yX7_squareOfWay : MethodName := ⟨RX7, "squareOfWay", "(II)I"⟩
abbrev cX7_isNear : ByteArray := prog_9_method_23_code
def yX7_isNear : MethodName := ⟨RX7, "isNear", "(III)Z"⟩
abbrev cX7_isEven : ByteArray := prog_9_method_24_code
def yX7_isEven : MethodName := ⟨RX7, "isEven", "(IIII)Z"⟩
def RX8 : String := "RayGround"
def TX8 : u_T := fun k => match k with
  | 0 => ("RayGround", "sheetRows", "[LRayGround$Sheet;", true)
  | 1 => ("RayGround", "years", "[LRayGround$Year;", true)
  | 2 => ("RayGround", "tape", "LRayGround$Tape;", true)
  | 3 => ("RayGround", "jobText", "LRayGround$JobText;", true)
  | 4 => ("RayGround", "fitting", "LRayGround$Fitting;", true)
  | 5 => ("RayGround", "roofFinder", "LRayGround$RoofFinder;", true)
  | 6 => ("RayGround", "lineWalk", "LRayGround$LineWalk;", true)
  | 7 => ("RayGround", "firstGrid", "LRayGround$Grid;", true)
  | _ => ("RayGround", "secondGrid", "LRayGround$Grid;", true)
def tyX8 : Nat → FieldType := fun k => match k with
  | 0 => .array (.object "RayGround$Sheet")
  | 1 => .array (.object "RayGround$Year")
  | 2 => .object "RayGround$Tape"
  | 3 => .object "RayGround$JobText"
  | 4 => .object "RayGround$Fitting"
  | 5 => .object "RayGround$RoofFinder"
  | 6 => .object "RayGround$LineWalk"
  | 7 => .object "RayGround$Grid"
  | _ => .object "RayGround$Grid"
abbrev wsX80 : List Cond := u_ws RX8 TX8 9
theorem nmX8 : ∀ a, a < 9 → ∀ b, b < 9 → a ≠ b → (TX8 a).2.1 ≠ (TX8 b).2.1 := by decide +kernel
theorem tyX8_ok : ∀ k, k < 9 → parseFieldDescriptor (TX8 k).2.2.1 = some (tyX8 k) := by decide +kernel
abbrev cX8_init : ByteArray := prog_1_method_1_code
def yX8_init : MethodName := ⟨RX8, "<init>", "()V"⟩
abbrev cX8_sheet : ByteArray := prog_1_method_2_code
def yX8_sheet : MethodName := ⟨RX8, "sheet", "(III)I"⟩
abbrev cX8_item : ByteArray := prog_1_method_4_code
def yX8_item : MethodName := ⟨RX8, "item", "(IIII)I"⟩
abbrev cX8_points : ByteArray := prog_1_method_6_code
def yX8_points : MethodName := ⟨RX8, "points", "(IIIII)I"⟩
abbrev cX8_told : ByteArray := prog_1_method_7_code
def yX8_told : MethodName := ⟨RX8, "told", "(III)I"⟩
abbrev cX8_grow : ByteArray := prog_1_method_14_code
def yX8_grow : MethodName := ⟨RX8, "grow", "(IIII)I"⟩
abbrev cX8_count : ByteArray := prog_1_method_16_code
def yX8_count : MethodName := ⟨RX8, "count", "(II)I"⟩
abbrev cX8_grid : ByteArray := prog_1_method_17_code
def yX8_grid : MethodName := ⟨RX8, "grid", "(III)I"⟩
abbrev cX8_volume : ByteArray := prog_1_method_18_code
def yX8_volume : MethodName := ⟨RX8, "volume", "(II)J"⟩
abbrev cX8_thirds : ByteArray := prog_1_method_19_code
def yX8_thirds : MethodName := ⟨RX8, "thirds", "(I)I"⟩
abbrev cX8_lines : ByteArray := prog_1_method_20_code
def yX8_lines : MethodName := ⟨RX8, "lines", "(IIZ)I"⟩
abbrev cX8_changed : ByteArray := prog_1_method_21_code
def yX8_changed : MethodName := ⟨RX8, "changed", "(II)I"⟩
abbrev cX8_isYear : ByteArray := prog_1_method_25_code
def yX8_isYear : MethodName := ⟨RX8, "isYear", "(I)Z"⟩
abbrev cX8_isSheet : ByteArray := prog_1_method_26_code
def yX8_isSheet : MethodName := ⟨RX8, "isSheet", "(I)Z"⟩
abbrev cX8_isLane : ByteArray := prog_1_method_27_code
def yX8_isLane : MethodName := ⟨RX8, "isLane", "(I)Z"⟩
abbrev cX8_isSquare : ByteArray := prog_1_method_29_code
def yX8_isSquare : MethodName := ⟨RX8, "isSquare", "(I)Z"⟩
abbrev cX8_isLevel : ByteArray := prog_1_method_30_code
def yX8_isLevel : MethodName := ⟨RX8, "isLevel", "(I)Z"⟩
abbrev cX8_tileOf : ByteArray := prog_1_method_31_code
def yX8_tileOf : MethodName := ⟨RX8, "tileOf", "(II)I"⟩
def RX9 : String := "RayGroundModel"
def TX9 : u_T := fun k => match k with
  | _ => ("", "", "", false)
def tyX9 : Nat → FieldType := fun k => match k with
  | _ => .int
abbrev wsX90 : List Cond := u_ws RX9 TX9 0
theorem nmX9 : ∀ a, a < 0 → ∀ b, b < 0 → a ≠ b → (TX9 a).2.1 ≠ (TX9 b).2.1 := by decide +kernel
theorem tyX9_ok : ∀ k, k < 0 → parseFieldDescriptor (TX9 k).2.2.1 = some (tyX9 k) := by decide +kernel
def RJ9 : String := "java/lang/Math"
def TJ9 : u_T := fun k => match k with
  | _ => ("", "", "", false)
def tyJ9 : Nat → FieldType := fun k => match k with
  | _ => .int
abbrev wsJ90 : List Cond := u_ws RJ9 TJ9 0
theorem nmJ9 : ∀ a, a < 0 → ∀ b, b < 0 → a ≠ b → (TJ9 a).2.1 ≠ (TJ9 b).2.1 := by decide +kernel
theorem tyJ9_ok : ∀ k, k < 0 → parseFieldDescriptor (TJ9 k).2.2.1 = some (tyJ9 k) := by decide +kernel
abbrev cJ9_min_7cf53 : ByteArray := prog_12_method_69_code
def yJ9_min_7cf53 : MethodName := ⟨RJ9, "min", "(II)I"⟩
def RJ7 : String := "java/util/Arrays"
def TJ7 : u_T := fun k => match k with
  | _ => ("", "", "", false)
def tyJ7 : Nat → FieldType := fun k => match k with
  | _ => .int
abbrev wsJ70 : List Cond := u_ws RJ7 TJ7 0
theorem nmJ7 : ∀ a, a < 0 → ∀ b, b < 0 → a ≠ b → (TJ7 a).2.1 ≠ (TJ7 b).2.1 := by decide +kernel
theorem tyJ7_ok : ∀ k, k < 0 → parseFieldDescriptor (TJ7 k).2.2.1 = some (tyJ7 k) := by decide +kernel
abbrev cJ7_fill_53178 : ByteArray := prog_13_method_103_code
def yJ7_fill_53178 : MethodName := ⟨RJ7, "fill", "([II)V"⟩
def RL : String := "RayGroundLaw"
abbrev cL_cell : ByteArray := method_2_code
def yL_cell : MethodName := ⟨RL, "cell", "([II)I"⟩
abbrev cL_some : ByteArray := method_3_code
def yL_some : MethodName := ⟨RL, "some", "(II)I"⟩
abbrev cL_point : ByteArray := method_4_code
def yL_point : MethodName := ⟨RL, "point", "(LRayGround;IIIII)I"⟩
abbrev cL_law : ByteArray := code
def yL_law : MethodName := ⟨RL, "law", "([I)Z"⟩
def wsX0_init : List Cond := .code yX0_init cX0_init 1 none :: ([.methodLink RX0 3 objectInit, .instanceMethod objectInit, .code objectInit ⟨#[0xb1]⟩ 1 none, .arrayClass .int, .fieldLink RX0 9 "RayGround$Fitting" "pointsOf" "[I", .classLink RX0 15 "[[J", .arrayClass .long, .fieldLink RX0 17 "RayGround$Fitting" "left" "[[J", .fieldLink RX0 20 "RayGround$Fitting" "right" "[J", .fieldLink RX0 24 "RayGround$Fitting" "found" "[I"] ++ wsX00)
def wsX1_init : List Cond := .code yX1_init cX1_init 1 none :: ([.methodLink RX1 3 objectInit, .instanceMethod objectInit, .code objectInit ⟨#[0xb1]⟩ 1 none, .arrayClass .int, .fieldLink RX1 9 "RayGround$Grid" "cells" "[I"] ++ wsX10)
def wsJ7_fill_53178 : List Cond := .code yJ7_fill_53178 cJ7_fill_53178 4 none :: ([])
def wsX7_square : List Cond := .code yX7_square cX7_square 2 (some .int) :: ([.fieldLink RX7 11 "RayGround$Year" "x" "[I", .fieldLink RX7 15 "RayGround$Year" "y" "[I"] ++ wsX70)
def wsX7_height : List Cond := .code yX7_height cX7_height 2 (some .int) :: ([.fieldLink RX7 18 "RayGround$Year" "z" "[I", .fieldLink RX7 33 "RayGround$Year" "shifts" "[I", .fieldLink RX7 21 "RayGround$Year" "strip" "[I"] ++ wsX70)
def wsX1_measure_r1 : List Cond := [Cond.fieldLink RX1 9 "RayGround$Grid" "cells" "[I", Cond.constant RX1 15 (100000), Cond.fieldLink RX1 22 "RayGround$Year" "size" "I", Cond.fieldLink RX1 28 "RayGround$Year" "kind" "[I", Cond.methodLink RX1 38 Lib.Math.min.name, Cond.static Lib.Math.min.name, Cond.initialized "java/lang/Math", Cond.code Lib.Math.min.name Lib.Math.min.code 2 (some .int), Cond.methodLink RX1 16 yJ7_fill_53178, Cond.static yJ7_fill_53178, Cond.initialized RJ7, Cond.code yJ7_fill_53178 cJ7_fill_53178 4 none, Cond.methodLink RX1 31 yX7_square, Cond.instanceMethod yX7_square, Cond.selects RX7 yX7_square yX7_square, Cond.initialized RX7, Cond.code yX7_square cX7_square 2 (some .int), Cond.fieldLink RX7 11 "RayGround$Year" "x" "[I", Cond.fieldLink RX7 15 "RayGround$Year" "y" "[I", Cond.methodLink RX1 35 yX7_height, Cond.instanceMethod yX7_height, Cond.selects RX7 yX7_height yX7_height, Cond.code yX7_height cX7_height 2 (some .int), Cond.fieldLink RX7 18 "RayGround$Year" "z" "[I"]
def wsX1_measure_r2 : List Cond := [Cond.fieldLink RX7 33 "RayGround$Year" "shifts" "[I", Cond.fieldLink RX7 21 "RayGround$Year" "strip" "[I"]
def wsX1_measure : List Cond := .code yX1_measure cX1_measure 4 none :: ((wsX1_measure_r1 ++ wsX1_measure_r2) ++ wsX10 ++ wsX70)
def wsX1_at : List Cond := .code yX1_at cX1_at 3 (some .int) :: ([.fieldLink RX1 9 "RayGround$Grid" "cells" "[I"] ++ wsX10)
def wsX1_isFilled : List Cond := .code yX1_isFilled cX1_isFilled 3 (some .boolean) :: ([.fieldLink RX1 9 "RayGround$Grid" "cells" "[I", .constant RX1 15 (100000)] ++ wsX10)
def wsX1_isQuad : List Cond := .code yX1_isQuad cX1_isQuad 3 (some .boolean) :: ([.methodLink RX1 44 yX1_isFilled, .instanceMethod yX1_isFilled, .selects RX1 yX1_isFilled yX1_isFilled, .initialized RX1, .code yX1_isFilled cX1_isFilled 3 (some .boolean), .fieldLink RX1 9 "RayGround$Grid" "cells" "[I", .constant RX1 15 (100000)] ++ wsX10)
def wsX1_countFilled : List Cond := .code yX1_countFilled cX1_countFilled 6 (some .int) :: ([.fieldLink RX1 9 "RayGround$Grid" "cells" "[I", .constant RX1 15 (100000)] ++ wsX10)
def wsX1_countThirds : List Cond := .code yX1_countThirds cX1_countThirds 4 (some .int) :: ([.methodLink RX1 48 yX1_isQuad, .instanceMethod yX1_isQuad, .selects RX1 yX1_isQuad yX1_isQuad, .initialized RX1, .code yX1_isQuad cX1_isQuad 3 (some .boolean), .methodLink RX1 44 yX1_isFilled, .instanceMethod yX1_isFilled, .selects RX1 yX1_isFilled yX1_isFilled, .code yX1_isFilled cX1_isFilled 3 (some .boolean), .fieldLink RX1 9 "RayGround$Grid" "cells" "[I", .constant RX1 15 (100000)] ++ wsX10)
def wsX1_sumOfBoth : List Cond := .code yX1_sumOfBoth cX1_sumOfBoth 3 (some .int) :: ([.methodLink RX1 58 yX1_at, .instanceMethod yX1_at, .selects RX1 yX1_at yX1_at, .initialized RX1, .code yX1_at cX1_at 3 (some .int), .fieldLink RX1 9 "RayGround$Grid" "cells" "[I"] ++ wsX10)
def wsX1_volumeAbove : List Cond := .code yX1_volumeAbove cX1_volumeAbove 6 (some .long) :: ([.constantLong RX1 54 (6), .constantLong RX1 56 (8), .methodLink RX1 48 yX1_isQuad, .instanceMethod yX1_isQuad, .selects RX1 yX1_isQuad yX1_isQuad, .initialized RX1, .code yX1_isQuad cX1_isQuad 3 (some .boolean), .methodLink RX1 44 yX1_isFilled, .instanceMethod yX1_isFilled, .selects RX1 yX1_isFilled yX1_isFilled, .code yX1_isFilled cX1_isFilled 3 (some .boolean), .fieldLink RX1 9 "RayGround$Grid" "cells" "[I", .constant RX1 15 (100000), .methodLink RX1 51 yX1_sumOfBoth, .instanceMethod yX1_sumOfBoth, .selects RX1 yX1_sumOfBoth yX1_sumOfBoth, .code yX1_sumOfBoth cX1_sumOfBoth 3 (some .int), .methodLink RX1 58 yX1_at, .instanceMethod yX1_at, .selects RX1 yX1_at yX1_at, .code yX1_at cX1_at 3 (some .int)] ++ wsX10)
def wsX1_bothFilled : List Cond := .code yX1_bothFilled cX1_bothFilled 3 (some .boolean) :: ([.fieldLink RX1 9 "RayGround$Grid" "cells" "[I", .constant RX1 15 (100000)] ++ wsX10)
def wsX1_countBoth : List Cond := .code yX1_countBoth cX1_countBoth 4 (some .int) :: ([.fieldLink RX1 9 "RayGround$Grid" "cells" "[I", .methodLink RX1 61 yX1_bothFilled, .instanceMethod yX1_bothFilled, .selects RX1 yX1_bothFilled yX1_bothFilled, .initialized RX1, .code yX1_bothFilled cX1_bothFilled 3 (some .boolean), .constant RX1 15 (100000)] ++ wsX10)
def wsX1_countRisen : List Cond := .code yX1_countRisen cX1_countRisen 6 (some .int) :: ([.fieldLink RX1 9 "RayGround$Grid" "cells" "[I", .methodLink RX1 61 yX1_bothFilled, .instanceMethod yX1_bothFilled, .selects RX1 yX1_bothFilled yX1_bothFilled, .initialized RX1, .code yX1_bothFilled cX1_bothFilled 3 (some .boolean), .constant RX1 15 (100000)] ++ wsX10)
def wsX1_sumOfRises : List Cond := .code yX1_sumOfRises cX1_sumOfRises 4 (some .int) :: ([.fieldLink RX1 9 "RayGround$Grid" "cells" "[I", .methodLink RX1 61 yX1_bothFilled, .instanceMethod yX1_bothFilled, .selects RX1 yX1_bothFilled yX1_bothFilled, .initialized RX1, .code yX1_bothFilled cX1_bothFilled 3 (some .boolean), .constant RX1 15 (100000)] ++ wsX10)
def wsX2_init : List Cond := .code yX2_init cX2_init 1 none :: ([.methodLink RX2 5 objectInit, .instanceMethod objectInit, .code objectInit ⟨#[0xb1]⟩ 1 none, .arrayClass .char, .fieldLink RX2 13 "RayGround$JobText" "letter" "[C", .arrayClass .int, .fieldLink RX2 17 "RayGround$JobText" "first" "[I", .fieldLink RX2 21 "RayGround$JobText" "second" "[I", .fieldLink RX2 24 "RayGround$JobText" "third" "[I", .fieldLink RX2 27 "RayGround$JobText" "steps" "I", .fieldLink RX2 31 "RayGround$JobText" "bytes" "[C", .fieldLink RX2 34 "RayGround$JobText" "size" "I", .fieldLink RX2 37 "RayGround$JobText" "at" "I", .fieldLink RX2 40 "RayGround$JobText" "faulty" "Z"] ++ wsX20)
def wsX3_init : List Cond := .code yX3_init cX3_init 1 none :: ([.methodLink RX3 5 objectInit, .instanceMethod objectInit, .code objectInit ⟨#[0xb1]⟩ 1 none, .arrayClass .boolean, .fieldLink RX3 11 "RayGround$LineWalk" "seen" "[Z", .arrayClass .int, .fieldLink RX3 15 "RayGround$LineWalk" "queue" "[I", .fieldLink RX3 19 "RayGround$LineWalk" "queued" "I"] ++ wsX30)
def wsX3_column : List Cond := .code yX3_column cX3_column 2 (some .int) :: ([])
def wsX3_row : List Cond := .code yX3_row cX3_row 2 (some .int) :: ([])
def wsX3_isUpper : List Cond := .code yX3_isUpper cX3_isUpper 2 (some .boolean) :: ([])
def wsX3_isAbove : List Cond := .code yX3_isAbove cX3_isAbove 7 (some .boolean) :: ([.methodLink RX3 42 yX3_column, .instanceMethod yX3_column, .selects RX3 yX3_column yX3_column, .initialized RX3, .code yX3_column cX3_column 2 (some .int), .methodLink RX3 46 yX3_row, .instanceMethod yX3_row, .selects RX3 yX3_row yX3_row, .code yX3_row cX3_row 2 (some .int), .methodLink RX3 56 yX3_isUpper, .instanceMethod yX3_isUpper, .selects RX3 yX3_isUpper yX3_isUpper, .code yX3_isUpper cX3_isUpper 2 (some .boolean), .methodLink RX3 60 yX1_at, .instanceMethod yX1_at, .selects RX1 yX1_at yX1_at, .initialized RX1, .code yX1_at cX1_at 3 (some .int), .fieldLink RX1 9 "RayGround$Grid" "cells" "[I"] ++ wsX10)
def wsX3_isCrossed_r1 : List Cond := [Cond.methodLink RX3 42 yX3_column, Cond.instanceMethod yX3_column, Cond.selects RX3 yX3_column yX3_column, Cond.initialized RX3, Cond.code yX3_column cX3_column 2 (some .int), Cond.methodLink RX3 46 yX3_row, Cond.instanceMethod yX3_row, Cond.selects RX3 yX3_row yX3_row, Cond.code yX3_row cX3_row 2 (some .int), Cond.methodLink RX3 49 yX1_isQuad, Cond.instanceMethod yX1_isQuad, Cond.selects RX1 yX1_isQuad yX1_isQuad, Cond.initialized RX1, Cond.code yX1_isQuad cX1_isQuad 3 (some .boolean), Cond.methodLink RX1 44 yX1_isFilled, Cond.instanceMethod yX1_isFilled, Cond.selects RX1 yX1_isFilled yX1_isFilled, Cond.code yX1_isFilled cX1_isFilled 3 (some .boolean), Cond.fieldLink RX1 9 "RayGround$Grid" "cells" "[I", Cond.constant RX1 15 (100000), Cond.methodLink RX3 53 yX3_isAbove, Cond.instanceMethod yX3_isAbove, Cond.selects RX3 yX3_isAbove yX3_isAbove, Cond.code yX3_isAbove cX3_isAbove 7 (some .boolean)]
def wsX3_isCrossed_r2 : List Cond := [Cond.methodLink RX3 56 yX3_isUpper, Cond.instanceMethod yX3_isUpper, Cond.selects RX3 yX3_isUpper yX3_isUpper, Cond.code yX3_isUpper cX3_isUpper 2 (some .boolean), Cond.methodLink RX3 60 yX1_at, Cond.instanceMethod yX1_at, Cond.selects RX1 yX1_at yX1_at, Cond.code yX1_at cX1_at 3 (some .int)]
def wsX3_isCrossed : List Cond := .code yX3_isCrossed cX3_isCrossed 5 (some .boolean) :: ((wsX3_isCrossed_r1 ++ wsX3_isCrossed_r2) ++ wsX10)
def wsX3_enqueue : List Cond := .code yX3_enqueue cX3_enqueue 2 none :: ([.fieldLink RX3 11 "RayGround$LineWalk" "seen" "[Z", .fieldLink RX3 19 "RayGround$LineWalk" "queued" "I", .fieldLink RX3 15 "RayGround$LineWalk" "queue" "[I"] ++ wsX30)
def wsX3_isEdgeCrossed : List Cond := .code yX3_isEdgeCrossed cX3_isEdgeCrossed 5 (some .boolean) :: ([.methodLink RX3 53 yX3_isAbove, .instanceMethod yX3_isAbove, .selects RX3 yX3_isAbove yX3_isAbove, .initialized RX3, .code yX3_isAbove cX3_isAbove 7 (some .boolean), .methodLink RX3 42 yX3_column, .instanceMethod yX3_column, .selects RX3 yX3_column yX3_column, .code yX3_column cX3_column 2 (some .int), .methodLink RX3 46 yX3_row, .instanceMethod yX3_row, .selects RX3 yX3_row yX3_row, .code yX3_row cX3_row 2 (some .int), .methodLink RX3 56 yX3_isUpper, .instanceMethod yX3_isUpper, .selects RX3 yX3_isUpper yX3_isUpper, .code yX3_isUpper cX3_isUpper 2 (some .boolean), .methodLink RX3 60 yX1_at, .instanceMethod yX1_at, .selects RX1 yX1_at yX1_at, .initialized RX1, .code yX1_at cX1_at 3 (some .int), .fieldLink RX1 9 "RayGround$Grid" "cells" "[I"] ++ wsX10)
def wsX3_thirdAt : List Cond := .code yX3_thirdAt cX3_thirdAt 5 (some .int) :: ([.methodLink RX3 49 yX1_isQuad, .instanceMethod yX1_isQuad, .selects RX1 yX1_isQuad yX1_isQuad, .initialized RX1, .code yX1_isQuad cX1_isQuad 3 (some .boolean), .methodLink RX1 44 yX1_isFilled, .instanceMethod yX1_isFilled, .selects RX1 yX1_isFilled yX1_isFilled, .code yX1_isFilled cX1_isFilled 3 (some .boolean), .fieldLink RX1 9 "RayGround$Grid" "cells" "[I", .constant RX1 15 (100000)] ++ wsX10)
def wsX3_beyond_r1 : List Cond := [Cond.methodLink RX3 42 yX3_column, Cond.instanceMethod yX3_column, Cond.selects RX3 yX3_column yX3_column, Cond.initialized RX3, Cond.code yX3_column cX3_column 2 (some .int), Cond.methodLink RX3 46 yX3_row, Cond.instanceMethod yX3_row, Cond.selects RX3 yX3_row yX3_row, Cond.code yX3_row cX3_row 2 (some .int), Cond.methodLink RX3 56 yX3_isUpper, Cond.instanceMethod yX3_isUpper, Cond.selects RX3 yX3_isUpper yX3_isUpper, Cond.code yX3_isUpper cX3_isUpper 2 (some .boolean), Cond.methodLink RX3 64 yX3_thirdAt, Cond.instanceMethod yX3_thirdAt, Cond.selects RX3 yX3_thirdAt yX3_thirdAt, Cond.code yX3_thirdAt cX3_thirdAt 5 (some .int), Cond.methodLink RX3 49 yX1_isQuad, Cond.instanceMethod yX1_isQuad, Cond.selects RX1 yX1_isQuad yX1_isQuad, Cond.initialized RX1, Cond.code yX1_isQuad cX1_isQuad 3 (some .boolean), Cond.methodLink RX1 44 yX1_isFilled, Cond.instanceMethod yX1_isFilled]
def wsX3_beyond_r2 : List Cond := [Cond.selects RX1 yX1_isFilled yX1_isFilled, Cond.code yX1_isFilled cX1_isFilled 3 (some .boolean), Cond.fieldLink RX1 9 "RayGround$Grid" "cells" "[I", Cond.constant RX1 15 (100000)]
def wsX3_beyond : List Cond := .code yX3_beyond cX3_beyond 7 (some .int) :: ((wsX3_beyond_r1 ++ wsX3_beyond_r2) ++ wsX10)
def wsX3_walkFrom_r1 : List Cond := [Cond.fieldLink RX3 19 "RayGround$LineWalk" "queued" "I", Cond.fieldLink RX3 15 "RayGround$LineWalk" "queue" "[I", Cond.methodLink RX3 30 yX3_enqueue, Cond.instanceMethod yX3_enqueue, Cond.selects RX3 yX3_enqueue yX3_enqueue, Cond.initialized RX3, Cond.code yX3_enqueue cX3_enqueue 2 none, Cond.fieldLink RX3 11 "RayGround$LineWalk" "seen" "[Z", Cond.methodLink RX3 34 yX3_isEdgeCrossed, Cond.instanceMethod yX3_isEdgeCrossed, Cond.selects RX3 yX3_isEdgeCrossed yX3_isEdgeCrossed, Cond.code yX3_isEdgeCrossed cX3_isEdgeCrossed 5 (some .boolean), Cond.methodLink RX3 53 yX3_isAbove, Cond.instanceMethod yX3_isAbove, Cond.selects RX3 yX3_isAbove yX3_isAbove, Cond.code yX3_isAbove cX3_isAbove 7 (some .boolean), Cond.methodLink RX3 42 yX3_column, Cond.instanceMethod yX3_column, Cond.selects RX3 yX3_column yX3_column, Cond.code yX3_column cX3_column 2 (some .int), Cond.methodLink RX3 46 yX3_row, Cond.instanceMethod yX3_row, Cond.selects RX3 yX3_row yX3_row, Cond.code yX3_row cX3_row 2 (some .int)]
def wsX3_walkFrom_r2 : List Cond := [Cond.methodLink RX3 56 yX3_isUpper, Cond.instanceMethod yX3_isUpper, Cond.selects RX3 yX3_isUpper yX3_isUpper, Cond.code yX3_isUpper cX3_isUpper 2 (some .boolean), Cond.methodLink RX3 60 yX1_at, Cond.instanceMethod yX1_at, Cond.selects RX1 yX1_at yX1_at, Cond.initialized RX1, Cond.code yX1_at cX1_at 3 (some .int), Cond.fieldLink RX1 9 "RayGround$Grid" "cells" "[I", Cond.methodLink RX3 38 yX3_beyond, Cond.instanceMethod yX3_beyond, Cond.selects RX3 yX3_beyond yX3_beyond, Cond.code yX3_beyond cX3_beyond 7 (some .int), Cond.methodLink RX3 64 yX3_thirdAt, Cond.instanceMethod yX3_thirdAt, Cond.selects RX3 yX3_thirdAt yX3_thirdAt, Cond.code yX3_thirdAt cX3_thirdAt 5 (some .int), Cond.methodLink RX3 49 yX1_isQuad, Cond.instanceMethod yX1_isQuad, Cond.selects RX1 yX1_isQuad yX1_isQuad, Cond.code yX1_isQuad cX1_isQuad 3 (some .boolean), Cond.methodLink RX1 44 yX1_isFilled, Cond.instanceMethod yX1_isFilled]
def wsX3_walkFrom_r3 : List Cond := [Cond.selects RX1 yX1_isFilled yX1_isFilled, Cond.code yX1_isFilled cX1_isFilled 3 (some .boolean), Cond.constant RX1 15 (100000)]
def wsX3_walkFrom : List Cond := .code yX3_walkFrom cX3_walkFrom 8 (some .boolean) :: ((wsX3_walkFrom_r1 ++ (wsX3_walkFrom_r2 ++ wsX3_walkFrom_r3)) ++ wsX30 ++ wsX10)
def wsX3_countLines_r1 : List Cond := [Cond.fieldLink RX3 11 "RayGround$LineWalk" "seen" "[Z", Cond.methodLink RX3 23 yX3_isCrossed, Cond.instanceMethod yX3_isCrossed, Cond.selects RX3 yX3_isCrossed yX3_isCrossed, Cond.initialized RX3, Cond.code yX3_isCrossed cX3_isCrossed 5 (some .boolean), Cond.methodLink RX3 42 yX3_column, Cond.instanceMethod yX3_column, Cond.selects RX3 yX3_column yX3_column, Cond.code yX3_column cX3_column 2 (some .int), Cond.methodLink RX3 46 yX3_row, Cond.instanceMethod yX3_row, Cond.selects RX3 yX3_row yX3_row, Cond.code yX3_row cX3_row 2 (some .int), Cond.methodLink RX3 49 yX1_isQuad, Cond.instanceMethod yX1_isQuad, Cond.selects RX1 yX1_isQuad yX1_isQuad, Cond.initialized RX1, Cond.code yX1_isQuad cX1_isQuad 3 (some .boolean), Cond.methodLink RX1 44 yX1_isFilled, Cond.instanceMethod yX1_isFilled, Cond.selects RX1 yX1_isFilled yX1_isFilled, Cond.code yX1_isFilled cX1_isFilled 3 (some .boolean), Cond.fieldLink RX1 9 "RayGround$Grid" "cells" "[I"]
def wsX3_countLines_r2 : List Cond := [Cond.constant RX1 15 (100000), Cond.methodLink RX3 53 yX3_isAbove, Cond.instanceMethod yX3_isAbove, Cond.selects RX3 yX3_isAbove yX3_isAbove, Cond.code yX3_isAbove cX3_isAbove 7 (some .boolean), Cond.methodLink RX3 56 yX3_isUpper, Cond.instanceMethod yX3_isUpper, Cond.selects RX3 yX3_isUpper yX3_isUpper, Cond.code yX3_isUpper cX3_isUpper 2 (some .boolean), Cond.methodLink RX3 60 yX1_at, Cond.instanceMethod yX1_at, Cond.selects RX1 yX1_at yX1_at, Cond.code yX1_at cX1_at 3 (some .int), Cond.methodLink RX3 27 yX3_walkFrom, Cond.instanceMethod yX3_walkFrom, Cond.selects RX3 yX3_walkFrom yX3_walkFrom, Cond.code yX3_walkFrom cX3_walkFrom 8 (some .boolean), Cond.fieldLink RX3 19 "RayGround$LineWalk" "queued" "I", Cond.fieldLink RX3 15 "RayGround$LineWalk" "queue" "[I", Cond.methodLink RX3 30 yX3_enqueue, Cond.instanceMethod yX3_enqueue, Cond.selects RX3 yX3_enqueue yX3_enqueue, Cond.code yX3_enqueue cX3_enqueue 2 none, Cond.methodLink RX3 34 yX3_isEdgeCrossed]
def wsX3_countLines_r3 : List Cond := [Cond.instanceMethod yX3_isEdgeCrossed, Cond.selects RX3 yX3_isEdgeCrossed yX3_isEdgeCrossed, Cond.code yX3_isEdgeCrossed cX3_isEdgeCrossed 5 (some .boolean), Cond.methodLink RX3 38 yX3_beyond, Cond.instanceMethod yX3_beyond, Cond.selects RX3 yX3_beyond yX3_beyond, Cond.code yX3_beyond cX3_beyond 7 (some .int), Cond.methodLink RX3 64 yX3_thirdAt, Cond.instanceMethod yX3_thirdAt, Cond.selects RX3 yX3_thirdAt yX3_thirdAt, Cond.code yX3_thirdAt cX3_thirdAt 5 (some .int)]
def wsX3_countLines : List Cond := .code yX3_countLines cX3_countLines 7 (some .int) :: ((wsX3_countLines_r1 ++ (wsX3_countLines_r2 ++ wsX3_countLines_r3)) ++ wsX30 ++ wsX10)
def wsX4_init : List Cond := .code yX4_init cX4_init 1 none :: ([.methodLink RX4 3 objectInit, .instanceMethod objectInit, .code objectInit ⟨#[0xb1]⟩ 1 none, .arrayClass .int, .fieldLink RX4 11 "RayGround$RoofFinder" "number" "[I", .fieldLink RX4 15 "RayGround$RoofFinder" "x" "[I", .fieldLink RX4 18 "RayGround$RoofFinder" "y" "[I", .fieldLink RX4 21 "RayGround$RoofFinder" "height" "[I", .fieldLink RX4 24 "RayGround$RoofFinder" "size" "I", .fieldLink RX4 28 "RayGround$RoofFinder" "base" "I", .fieldLink RX4 31 "RayGround$RoofFinder" "normalX" "J", .fieldLink RX4 35 "RayGround$RoofFinder" "normalY" "J", .fieldLink RX4 38 "RayGround$RoofFinder" "normalH" "J", .fieldLink RX4 41 "RayGround$RoofFinder" "bestCount" "I", .fieldLink RX4 44 "RayGround$RoofFinder" "bestI" "I", .fieldLink RX4 47 "RayGround$RoofFinder" "bestJ" "I", .fieldLink RX4 50 "RayGround$RoofFinder" "bestK" "I"] ++ wsX40)
def wsX5_init : List Cond := .code yX5_init cX5_init 1 none :: ([.methodLink RX5 1 objectInit, .instanceMethod objectInit, .code objectInit ⟨#[0xb1]⟩ 1 none, .arrayClass .int, .fieldLink RX5 9 "RayGround$Sheet" "items" "[I", .fieldLink RX5 13 "RayGround$Sheet" "lane" "I", .fieldLink RX5 17 "RayGround$Sheet" "size" "I"] ++ wsX50)
def wsX5_holds : List Cond := .code yX5_holds cX5_holds 1 (some .boolean) :: ([.fieldLink RX5 13 "RayGround$Sheet" "lane" "I"] ++ wsX50)
def wsX5_renew : List Cond := .code yX5_renew cX5_renew 3 none :: ([.fieldLink RX5 9 "RayGround$Sheet" "items" "[I", .fieldLink RX5 13 "RayGround$Sheet" "lane" "I", .fieldLink RX5 17 "RayGround$Sheet" "size" "I", .methodLink RX5 20 yJ7_fill_53178, .static yJ7_fill_53178, .initialized RJ7, .code yJ7_fill_53178 cJ7_fill_53178 4 none] ++ wsX50)
def wsX5_hasRange : List Cond := .code yX5_hasRange cX5_hasRange 3 (some .boolean) :: ([.fieldLink RX5 17 "RayGround$Sheet" "size" "I"] ++ wsX50)
def wsX5_put : List Cond := .code yX5_put cX5_put 3 none :: ([.fieldLink RX5 13 "RayGround$Sheet" "lane" "I", .fieldLink RX5 9 "RayGround$Sheet" "items" "[I"] ++ wsX50)
def wsX6_init : List Cond := .code yX6_init cX6_init 1 none :: ([.methodLink RX6 1 objectInit, .instanceMethod objectInit, .code objectInit ⟨#[0xb1]⟩ 1 none, .arrayClass .char, .fieldLink RX6 9 "RayGround$Tape" "bytes" "[C", .fieldLink RX6 13 "RayGround$Tape" "size" "I"] ++ wsX60)
def wsX7_init : List Cond := .code yX7_init cX7_init 1 none :: ([.methodLink RX7 3 objectInit, .instanceMethod objectInit, .code objectInit ⟨#[0xb1]⟩ 1 none, .arrayClass .int, .fieldLink RX7 11 "RayGround$Year" "x" "[I", .fieldLink RX7 15 "RayGround$Year" "y" "[I", .fieldLink RX7 18 "RayGround$Year" "z" "[I", .fieldLink RX7 21 "RayGround$Year" "strip" "[I", .fieldLink RX7 24 "RayGround$Year" "kind" "[I", .fieldLink RX7 27 "RayGround$Year" "byHand" "[I", .fieldLink RX7 30 "RayGround$Year" "round" "[I", .fieldLink RX7 33 "RayGround$Year" "shifts" "[I", .arrayClass .boolean, .fieldLink RX7 36 "RayGround$Year" "lost" "[Z", .fieldLink RX7 40 "RayGround$Year" "size" "I"] ++ wsX70)
def wsX7_hasPoint : List Cond := .code yX7_hasPoint cX7_hasPoint 2 (some .boolean) :: ([.fieldLink RX7 40 "RayGround$Year" "size" "I"] ++ wsX70)
def wsX8_tileOf : List Cond := .code yX8_tileOf cX8_tileOf 2 (some .int) :: ([])
def wsX7_isPoint : List Cond := .code yX7_isPoint cX7_isPoint 5 (some .boolean) :: ([.fieldLink RX7 36 "RayGround$Year" "lost" "[Z", .static yX8_tileOf, .initialized RX8, .code yX8_tileOf cX8_tileOf 2 (some .int)] ++ wsX70)
def wsX7_canTake : List Cond := .code yX7_canTake cX7_canTake 6 (some .boolean) :: ([.methodLink RX7 44 yX7_isPoint, .instanceMethod yX7_isPoint, .selects RX7 yX7_isPoint yX7_isPoint, .initialized RX7, .code yX7_isPoint cX7_isPoint 5 (some .boolean), .fieldLink RX7 36 "RayGround$Year" "lost" "[Z", .static yX8_tileOf, .initialized RX8, .code yX8_tileOf cX8_tileOf 2 (some .int)] ++ wsX70)
def wsX7_settle : List Cond := .code yX7_settle cX7_settle 4 none :: ([.fieldLink RX7 24 "RayGround$Year" "kind" "[I", .fieldLink RX7 30 "RayGround$Year" "round" "[I"] ++ wsX70)
def wsX7_take : List Cond := .code yX7_take cX7_take 6 none :: ([.fieldLink RX7 11 "RayGround$Year" "x" "[I", .fieldLink RX7 40 "RayGround$Year" "size" "I", .fieldLink RX7 15 "RayGround$Year" "y" "[I", .fieldLink RX7 18 "RayGround$Year" "z" "[I", .fieldLink RX7 21 "RayGround$Year" "strip" "[I", .fieldLink RX7 27 "RayGround$Year" "byHand" "[I", .methodLink RX7 52 yX7_settle, .instanceMethod yX7_settle, .selects RX7 yX7_settle yX7_settle, .initialized RX7, .code yX7_settle cX7_settle 4 none, .fieldLink RX7 24 "RayGround$Year" "kind" "[I", .fieldLink RX7 30 "RayGround$Year" "round" "[I"] ++ wsX70)
def wsX7_countKind : List Cond := .code yX7_countKind cX7_countKind 4 (some .int) :: ([.fieldLink RX7 40 "RayGround$Year" "size" "I", .fieldLink RX7 24 "RayGround$Year" "kind" "[I"] ++ wsX70)
def wsX7_countLost : List Cond := .code yX7_countLost cX7_countLost 6 (some .int) :: ([.fieldLink RX7 36 "RayGround$Year" "lost" "[Z"] ++ wsX70)
def wsX7_lowestOf : List Cond := .code yX7_lowestOf cX7_lowestOf 4 (some .int) :: ([.fieldLink RX7 40 "RayGround$Year" "size" "I", .fieldLink RX7 27 "RayGround$Year" "byHand" "[I", .fieldLink RX7 11 "RayGround$Year" "x" "[I", .fieldLink RX7 15 "RayGround$Year" "y" "[I", .static yX8_tileOf, .initialized RX8, .code yX8_tileOf cX8_tileOf 2 (some .int), .methodLink RX7 68 yX7_height, .instanceMethod yX7_height, .selects RX7 yX7_height yX7_height, .initialized RX7, .code yX7_height cX7_height 2 (some .int), .fieldLink RX7 18 "RayGround$Year" "z" "[I", .fieldLink RX7 33 "RayGround$Year" "shifts" "[I", .fieldLink RX7 21 "RayGround$Year" "strip" "[I"] ++ wsX70)
def wsX7_startFromSeeds_r1 : List Cond := [Cond.fieldLink RX7 40 "RayGround$Year" "size" "I", Cond.fieldLink RX7 27 "RayGround$Year" "byHand" "[I", Cond.methodLink RX7 52 yX7_settle, Cond.instanceMethod yX7_settle, Cond.selects RX7 yX7_settle yX7_settle, Cond.initialized RX7, Cond.code yX7_settle cX7_settle 4 none, Cond.fieldLink RX7 24 "RayGround$Year" "kind" "[I", Cond.fieldLink RX7 30 "RayGround$Year" "round" "[I", Cond.methodLink RX7 80 yX7_lowestOf, Cond.instanceMethod yX7_lowestOf, Cond.selects RX7 yX7_lowestOf yX7_lowestOf, Cond.code yX7_lowestOf cX7_lowestOf 4 (some .int), Cond.fieldLink RX7 11 "RayGround$Year" "x" "[I", Cond.fieldLink RX7 15 "RayGround$Year" "y" "[I", Cond.static yX8_tileOf, Cond.initialized RX8, Cond.code yX8_tileOf cX8_tileOf 2 (some .int), Cond.methodLink RX7 68 yX7_height, Cond.instanceMethod yX7_height, Cond.selects RX7 yX7_height yX7_height, Cond.code yX7_height cX7_height 2 (some .int), Cond.fieldLink RX7 18 "RayGround$Year" "z" "[I", Cond.fieldLink RX7 33 "RayGround$Year" "shifts" "[I"]
def wsX7_startFromSeeds_r2 : List Cond := [Cond.fieldLink RX7 21 "RayGround$Year" "strip" "[I"]
def wsX7_startFromSeeds : List Cond := .code yX7_startFromSeeds cX7_startFromSeeds 3 none :: ((wsX7_startFromSeeds_r1 ++ wsX7_startFromSeeds_r2) ++ wsX70)
def wsX7_squareOfWay : List Cond := .code yX7_squareOfWay cX7_squareOfWay 5 (some .int) :: ([.fieldLink RX7 11 "RayGround$Year" "x" "[I", .fieldLink RX7 15 "RayGround$Year" "y" "[I"] ++ wsX70)
def wsX7_isNear : List Cond := .code yX7_isNear cX7_isNear 4 (some .boolean) :: ([.methodLink RX7 94 yX7_squareOfWay, .instanceMethod yX7_squareOfWay, .selects RX7 yX7_squareOfWay yX7_squareOfWay, .initialized RX7, .code yX7_squareOfWay cX7_squareOfWay 5 (some .int), .fieldLink RX7 11 "RayGround$Year" "x" "[I", .fieldLink RX7 15 "RayGround$Year" "y" "[I"] ++ wsX70)
def wsX7_isEven : List Cond := .code yX7_isEven cX7_isEven 7 (some .boolean) :: ([.methodLink RX7 68 yX7_height, .instanceMethod yX7_height, .selects RX7 yX7_height yX7_height, .initialized RX7, .code yX7_height cX7_height 2 (some .int), .fieldLink RX7 18 "RayGround$Year" "z" "[I", .fieldLink RX7 33 "RayGround$Year" "shifts" "[I", .fieldLink RX7 21 "RayGround$Year" "strip" "[I", .methodLink RX7 94 yX7_squareOfWay, .instanceMethod yX7_squareOfWay, .selects RX7 yX7_squareOfWay yX7_squareOfWay, .code yX7_squareOfWay cX7_squareOfWay 5 (some .int), .fieldLink RX7 11 "RayGround$Year" "x" "[I", .fieldLink RX7 15 "RayGround$Year" "y" "[I"] ++ wsX70)
def wsX7_isReached : List Cond := .code yX7_isReached cX7_isReached 7 (some .boolean) :: ([.fieldLink RX7 40 "RayGround$Year" "size" "I", .fieldLink RX7 30 "RayGround$Year" "round" "[I", .methodLink RX7 87 yX7_isNear, .instanceMethod yX7_isNear, .selects RX7 yX7_isNear yX7_isNear, .initialized RX7, .code yX7_isNear cX7_isNear 4 (some .boolean), .methodLink RX7 94 yX7_squareOfWay, .instanceMethod yX7_squareOfWay, .selects RX7 yX7_squareOfWay yX7_squareOfWay, .code yX7_squareOfWay cX7_squareOfWay 5 (some .int), .fieldLink RX7 11 "RayGround$Year" "x" "[I", .fieldLink RX7 15 "RayGround$Year" "y" "[I", .methodLink RX7 91 yX7_isEven, .instanceMethod yX7_isEven, .selects RX7 yX7_isEven yX7_isEven, .code yX7_isEven cX7_isEven 7 (some .boolean), .methodLink RX7 68 yX7_height, .instanceMethod yX7_height, .selects RX7 yX7_height yX7_height, .code yX7_height cX7_height 2 (some .int), .fieldLink RX7 18 "RayGround$Year" "z" "[I", .fieldLink RX7 33 "RayGround$Year" "shifts" "[I", .fieldLink RX7 21 "RayGround$Year" "strip" "[I"] ++ wsX70)
def wsX7_spread_r1 : List Cond := [Cond.fieldLink RX7 40 "RayGround$Year" "size" "I", Cond.fieldLink RX7 24 "RayGround$Year" "kind" "[I", Cond.fieldLink RX7 27 "RayGround$Year" "byHand" "[I", Cond.methodLink RX7 83 yX7_isReached, Cond.instanceMethod yX7_isReached, Cond.selects RX7 yX7_isReached yX7_isReached, Cond.initialized RX7, Cond.code yX7_isReached cX7_isReached 7 (some .boolean), Cond.fieldLink RX7 30 "RayGround$Year" "round" "[I", Cond.methodLink RX7 87 yX7_isNear, Cond.instanceMethod yX7_isNear, Cond.selects RX7 yX7_isNear yX7_isNear, Cond.code yX7_isNear cX7_isNear 4 (some .boolean), Cond.methodLink RX7 94 yX7_squareOfWay, Cond.instanceMethod yX7_squareOfWay, Cond.selects RX7 yX7_squareOfWay yX7_squareOfWay, Cond.code yX7_squareOfWay cX7_squareOfWay 5 (some .int), Cond.fieldLink RX7 11 "RayGround$Year" "x" "[I", Cond.fieldLink RX7 15 "RayGround$Year" "y" "[I", Cond.methodLink RX7 91 yX7_isEven, Cond.instanceMethod yX7_isEven, Cond.selects RX7 yX7_isEven yX7_isEven, Cond.code yX7_isEven cX7_isEven 7 (some .boolean), Cond.methodLink RX7 68 yX7_height]
def wsX7_spread_r2 : List Cond := [Cond.instanceMethod yX7_height, Cond.selects RX7 yX7_height yX7_height, Cond.code yX7_height cX7_height 2 (some .int), Cond.fieldLink RX7 18 "RayGround$Year" "z" "[I", Cond.fieldLink RX7 33 "RayGround$Year" "shifts" "[I", Cond.fieldLink RX7 21 "RayGround$Year" "strip" "[I", Cond.methodLink RX7 52 yX7_settle, Cond.instanceMethod yX7_settle, Cond.selects RX7 yX7_settle yX7_settle, Cond.code yX7_settle cX7_settle 4 none]
def wsX7_spread : List Cond := .code yX7_spread cX7_spread 7 (some .boolean) :: ((wsX7_spread_r1 ++ wsX7_spread_r2) ++ wsX70)
def wsX7_growGround_r1 : List Cond := [Cond.fieldLink RX7 40 "RayGround$Year" "size" "I", Cond.methodLink RX7 71 yX7_startFromSeeds, Cond.instanceMethod yX7_startFromSeeds, Cond.selects RX7 yX7_startFromSeeds yX7_startFromSeeds, Cond.initialized RX7, Cond.code yX7_startFromSeeds cX7_startFromSeeds 3 none, Cond.fieldLink RX7 27 "RayGround$Year" "byHand" "[I", Cond.methodLink RX7 52 yX7_settle, Cond.instanceMethod yX7_settle, Cond.selects RX7 yX7_settle yX7_settle, Cond.code yX7_settle cX7_settle 4 none, Cond.fieldLink RX7 24 "RayGround$Year" "kind" "[I", Cond.fieldLink RX7 30 "RayGround$Year" "round" "[I", Cond.methodLink RX7 80 yX7_lowestOf, Cond.instanceMethod yX7_lowestOf, Cond.selects RX7 yX7_lowestOf yX7_lowestOf, Cond.code yX7_lowestOf cX7_lowestOf 4 (some .int), Cond.fieldLink RX7 11 "RayGround$Year" "x" "[I", Cond.fieldLink RX7 15 "RayGround$Year" "y" "[I", Cond.static yX8_tileOf, Cond.initialized RX8, Cond.code yX8_tileOf cX8_tileOf 2 (some .int), Cond.methodLink RX7 68 yX7_height, Cond.instanceMethod yX7_height]
def wsX7_growGround_r2 : List Cond := [Cond.selects RX7 yX7_height yX7_height, Cond.code yX7_height cX7_height 2 (some .int), Cond.fieldLink RX7 18 "RayGround$Year" "z" "[I", Cond.fieldLink RX7 33 "RayGround$Year" "shifts" "[I", Cond.fieldLink RX7 21 "RayGround$Year" "strip" "[I", Cond.methodLink RX7 74 yX7_spread, Cond.instanceMethod yX7_spread, Cond.selects RX7 yX7_spread yX7_spread, Cond.code yX7_spread cX7_spread 7 (some .boolean), Cond.methodLink RX7 83 yX7_isReached, Cond.instanceMethod yX7_isReached, Cond.selects RX7 yX7_isReached yX7_isReached, Cond.code yX7_isReached cX7_isReached 7 (some .boolean), Cond.methodLink RX7 87 yX7_isNear, Cond.instanceMethod yX7_isNear, Cond.selects RX7 yX7_isNear yX7_isNear, Cond.code yX7_isNear cX7_isNear 4 (some .boolean), Cond.methodLink RX7 94 yX7_squareOfWay, Cond.instanceMethod yX7_squareOfWay, Cond.selects RX7 yX7_squareOfWay yX7_squareOfWay, Cond.code yX7_squareOfWay cX7_squareOfWay 5 (some .int), Cond.methodLink RX7 91 yX7_isEven, Cond.instanceMethod yX7_isEven, Cond.selects RX7 yX7_isEven yX7_isEven]
def wsX7_growGround_r3 : List Cond := [Cond.code yX7_isEven cX7_isEven 7 (some .boolean), Cond.methodLink RX7 77 yX7_countKind, Cond.instanceMethod yX7_countKind, Cond.selects RX7 yX7_countKind yX7_countKind, Cond.code yX7_countKind cX7_countKind 4 (some .int)]
def wsX7_growGround : List Cond := .code yX7_growGround cX7_growGround 6 (some .int) :: ((wsX7_growGround_r1 ++ (wsX7_growGround_r2 ++ wsX7_growGround_r3)) ++ wsX70)
def wsX8_init_r1 : List Cond := [Cond.methodLink RX8 1 objectInit, Cond.instanceMethod objectInit, Cond.code objectInit ⟨#[0xb1]⟩ 1 none, Cond.classLink RX8 9 RX5, Cond.fieldLink RX8 11 "RayGround" "sheetRows" "[LRayGround$Sheet;", Cond.classLink RX8 15 RX7, Cond.fieldLink RX8 17 "RayGround" "years" "[LRayGround$Year;", Cond.classLink RX8 21 RX6, Cond.instantiable RX6 2, Cond.initialized RX6, Cond.fieldLink RX8 24 "RayGround" "tape" "LRayGround$Tape;", Cond.classLink RX8 28 RX2, Cond.instantiable RX2 9, Cond.initialized RX2, Cond.fieldLink RX8 31 "RayGround" "jobText" "LRayGround$JobText;", Cond.classLink RX8 35 RX0, Cond.instantiable RX0 4, Cond.initialized RX0, Cond.fieldLink RX8 38 "RayGround" "fitting" "LRayGround$Fitting;", Cond.classLink RX8 42 RX4, Cond.instantiable RX4 13, Cond.initialized RX4, Cond.fieldLink RX8 45 "RayGround" "roofFinder" "LRayGround$RoofFinder;", Cond.classLink RX8 49 RX3]
def wsX8_init_r2 : List Cond := [Cond.instantiable RX3 3, Cond.initialized RX3, Cond.fieldLink RX8 52 "RayGround" "lineWalk" "LRayGround$LineWalk;", Cond.classLink RX8 56 RX1, Cond.instantiable RX1 1, Cond.initialized RX1, Cond.fieldLink RX8 59 "RayGround" "firstGrid" "LRayGround$Grid;", Cond.fieldLink RX8 63 "RayGround" "secondGrid" "LRayGround$Grid;", Cond.instantiable RX5 3, Cond.initialized RX5, Cond.instantiable RX7 10, Cond.initialized RX7, Cond.instanceMethod yX6_init, Cond.code yX6_init cX6_init 1 none, Cond.methodLink RX6 1 objectInit, Cond.arrayClass .char, Cond.fieldLink RX6 9 "RayGround$Tape" "bytes" "[C", Cond.fieldLink RX6 13 "RayGround$Tape" "size" "I", Cond.instanceMethod yX2_init, Cond.code yX2_init cX2_init 1 none, Cond.methodLink RX2 5 objectInit, Cond.fieldLink RX2 13 "RayGround$JobText" "letter" "[C", Cond.arrayClass .int, Cond.fieldLink RX2 17 "RayGround$JobText" "first" "[I"]
def wsX8_init_r3 : List Cond := [Cond.fieldLink RX2 21 "RayGround$JobText" "second" "[I", Cond.fieldLink RX2 24 "RayGround$JobText" "third" "[I", Cond.fieldLink RX2 27 "RayGround$JobText" "steps" "I", Cond.fieldLink RX2 31 "RayGround$JobText" "bytes" "[C", Cond.fieldLink RX2 34 "RayGround$JobText" "size" "I", Cond.fieldLink RX2 37 "RayGround$JobText" "at" "I", Cond.fieldLink RX2 40 "RayGround$JobText" "faulty" "Z", Cond.instanceMethod yX0_init, Cond.code yX0_init cX0_init 1 none, Cond.methodLink RX0 3 objectInit, Cond.fieldLink RX0 9 "RayGround$Fitting" "pointsOf" "[I", Cond.classLink RX0 15 "[[J", Cond.arrayClass .long, Cond.fieldLink RX0 17 "RayGround$Fitting" "left" "[[J", Cond.fieldLink RX0 20 "RayGround$Fitting" "right" "[J", Cond.fieldLink RX0 24 "RayGround$Fitting" "found" "[I", Cond.instanceMethod yX4_init, Cond.code yX4_init cX4_init 1 none, Cond.methodLink RX4 3 objectInit, Cond.fieldLink RX4 11 "RayGround$RoofFinder" "number" "[I", Cond.fieldLink RX4 15 "RayGround$RoofFinder" "x" "[I", Cond.fieldLink RX4 18 "RayGround$RoofFinder" "y" "[I", Cond.fieldLink RX4 21 "RayGround$RoofFinder" "height" "[I", Cond.fieldLink RX4 24 "RayGround$RoofFinder" "size" "I"]
def wsX8_init_r4 : List Cond := [Cond.fieldLink RX4 28 "RayGround$RoofFinder" "base" "I", Cond.fieldLink RX4 31 "RayGround$RoofFinder" "normalX" "J", Cond.fieldLink RX4 35 "RayGround$RoofFinder" "normalY" "J", Cond.fieldLink RX4 38 "RayGround$RoofFinder" "normalH" "J", Cond.fieldLink RX4 41 "RayGround$RoofFinder" "bestCount" "I", Cond.fieldLink RX4 44 "RayGround$RoofFinder" "bestI" "I", Cond.fieldLink RX4 47 "RayGround$RoofFinder" "bestJ" "I", Cond.fieldLink RX4 50 "RayGround$RoofFinder" "bestK" "I", Cond.instanceMethod yX3_init, Cond.code yX3_init cX3_init 1 none, Cond.methodLink RX3 5 objectInit, Cond.arrayClass .boolean, Cond.fieldLink RX3 11 "RayGround$LineWalk" "seen" "[Z", Cond.fieldLink RX3 15 "RayGround$LineWalk" "queue" "[I", Cond.fieldLink RX3 19 "RayGround$LineWalk" "queued" "I", Cond.instanceMethod yX1_init, Cond.code yX1_init cX1_init 1 none, Cond.methodLink RX1 3 objectInit, Cond.fieldLink RX1 9 "RayGround$Grid" "cells" "[I", Cond.instanceMethod yX5_init, Cond.code yX5_init cX5_init 1 none, Cond.methodLink RX5 1 objectInit, Cond.fieldLink RX5 9 "RayGround$Sheet" "items" "[I", Cond.fieldLink RX5 13 "RayGround$Sheet" "lane" "I"]
def wsX8_init_r5 : List Cond := [Cond.fieldLink RX5 17 "RayGround$Sheet" "size" "I", Cond.instanceMethod yX7_init, Cond.code yX7_init cX7_init 1 none, Cond.methodLink RX7 3 objectInit, Cond.fieldLink RX7 11 "RayGround$Year" "x" "[I", Cond.fieldLink RX7 15 "RayGround$Year" "y" "[I", Cond.fieldLink RX7 18 "RayGround$Year" "z" "[I", Cond.fieldLink RX7 21 "RayGround$Year" "strip" "[I", Cond.fieldLink RX7 24 "RayGround$Year" "kind" "[I", Cond.fieldLink RX7 27 "RayGround$Year" "byHand" "[I", Cond.fieldLink RX7 30 "RayGround$Year" "round" "[I", Cond.fieldLink RX7 33 "RayGround$Year" "shifts" "[I", Cond.fieldLink RX7 36 "RayGround$Year" "lost" "[Z", Cond.fieldLink RX7 40 "RayGround$Year" "size" "I"]
def wsX8_init : List Cond := .code yX8_init cX8_init 2 none :: ((wsX8_init_r1 ++ (wsX8_init_r2 ++ (wsX8_init_r3 ++ (wsX8_init_r4 ++ wsX8_init_r5)))) ++ wsX80 ++ wsX60 ++ wsX20 ++ wsX00 ++ wsX40 ++ wsX30 ++ wsX10 ++ wsX50 ++ wsX70)
def wsX8_isSheet : List Cond := .code yX8_isSheet cX8_isSheet 1 (some .boolean) :: ([])
def wsX8_isLane : List Cond := .code yX8_isLane cX8_isLane 1 (some .boolean) :: ([])
def wsX8_sheet : List Cond := .code yX8_sheet cX8_sheet 4 (some .int) :: ([.fieldLink RX8 11 "RayGround" "sheetRows" "[LRayGround$Sheet;", .methodLink RX8 68 yX8_isSheet, .static yX8_isSheet, .initialized RX8, .code yX8_isSheet cX8_isSheet 1 (some .boolean), .methodLink RX8 72 yX8_isLane, .static yX8_isLane, .code yX8_isLane cX8_isLane 1 (some .boolean), .methodLink RX8 75 yX5_renew, .instanceMethod yX5_renew, .selects RX5 yX5_renew yX5_renew, .initialized RX5, .code yX5_renew cX5_renew 3 none, .fieldLink RX5 9 "RayGround$Sheet" "items" "[I", .fieldLink RX5 13 "RayGround$Sheet" "lane" "I", .fieldLink RX5 17 "RayGround$Sheet" "size" "I", .methodLink RX5 20 yJ7_fill_53178, .static yJ7_fill_53178, .initialized RJ7, .code yJ7_fill_53178 cJ7_fill_53178 4 none] ++ wsX80 ++ wsX50)
def wsX8_item_r1 : List Cond := [Cond.fieldLink RX8 11 "RayGround" "sheetRows" "[LRayGround$Sheet;", Cond.fieldLink RX8 90 "RayGround$Sheet" "lane" "I", Cond.methodLink RX8 68 yX8_isSheet, Cond.static yX8_isSheet, Cond.initialized RX8, Cond.code yX8_isSheet cX8_isSheet 1 (some .boolean), Cond.methodLink RX8 72 yX8_isLane, Cond.static yX8_isLane, Cond.code yX8_isLane cX8_isLane 1 (some .boolean), Cond.methodLink RX8 79 yX5_holds, Cond.instanceMethod yX5_holds, Cond.selects RX5 yX5_holds yX5_holds, Cond.initialized RX5, Cond.code yX5_holds cX5_holds 1 (some .boolean), Cond.fieldLink RX5 13 "RayGround$Sheet" "lane" "I", Cond.methodLink RX8 93 yX5_hasRange, Cond.instanceMethod yX5_hasRange, Cond.selects RX5 yX5_hasRange yX5_hasRange, Cond.code yX5_hasRange cX5_hasRange 3 (some .boolean), Cond.fieldLink RX5 17 "RayGround$Sheet" "size" "I", Cond.methodLink RX8 97 yX5_put, Cond.instanceMethod yX5_put, Cond.selects RX5 yX5_put yX5_put, Cond.code yX5_put cX5_put 3 none]
def wsX8_item_r2 : List Cond := [Cond.fieldLink RX5 9 "RayGround$Sheet" "items" "[I"]
def wsX8_item : List Cond := .code yX8_item cX8_item 6 (some .int) :: ((wsX8_item_r1 ++ wsX8_item_r2) ++ wsX80 ++ wsX50)
def wsX8_isYear : List Cond := .code yX8_isYear cX8_isYear 1 (some .boolean) :: ([])
def wsX8_points_r1 : List Cond := [Cond.fieldLink RX8 11 "RayGround" "sheetRows" "[LRayGround$Sheet;", Cond.fieldLink RX8 90 "RayGround$Sheet" "lane" "I", Cond.fieldLink RX8 17 "RayGround" "years" "[LRayGround$Year;", Cond.fieldLink RX8 100 "RayGround$Sheet" "items" "[I", Cond.fieldLink RX8 117 "RayGround$Year" "size" "I", Cond.methodLink RX8 110 yX8_isYear, Cond.static yX8_isYear, Cond.initialized RX8, Cond.code yX8_isYear cX8_isYear 1 (some .boolean), Cond.methodLink RX8 68 yX8_isSheet, Cond.static yX8_isSheet, Cond.code yX8_isSheet cX8_isSheet 1 (some .boolean), Cond.methodLink RX8 72 yX8_isLane, Cond.static yX8_isLane, Cond.code yX8_isLane cX8_isLane 1 (some .boolean), Cond.methodLink RX8 79 yX5_holds, Cond.instanceMethod yX5_holds, Cond.selects RX5 yX5_holds yX5_holds, Cond.initialized RX5, Cond.code yX5_holds cX5_holds 1 (some .boolean), Cond.fieldLink RX5 13 "RayGround$Sheet" "lane" "I", Cond.methodLink RX8 93 yX5_hasRange, Cond.instanceMethod yX5_hasRange, Cond.selects RX5 yX5_hasRange yX5_hasRange]
def wsX8_points_r2 : List Cond := [Cond.code yX5_hasRange cX5_hasRange 3 (some .boolean), Cond.fieldLink RX5 17 "RayGround$Sheet" "size" "I", Cond.methodLink RX8 113 yX7_canTake, Cond.instanceMethod yX7_canTake, Cond.selects RX7 yX7_canTake yX7_canTake, Cond.initialized RX7, Cond.code yX7_canTake cX7_canTake 6 (some .boolean), Cond.methodLink RX7 44 yX7_isPoint, Cond.instanceMethod yX7_isPoint, Cond.selects RX7 yX7_isPoint yX7_isPoint, Cond.code yX7_isPoint cX7_isPoint 5 (some .boolean), Cond.fieldLink RX7 36 "RayGround$Year" "lost" "[Z", Cond.static yX8_tileOf, Cond.code yX8_tileOf cX8_tileOf 2 (some .int), Cond.methodLink RX8 118 yX7_take, Cond.instanceMethod yX7_take, Cond.selects RX7 yX7_take yX7_take, Cond.code yX7_take cX7_take 6 none, Cond.fieldLink RX7 11 "RayGround$Year" "x" "[I", Cond.fieldLink RX7 40 "RayGround$Year" "size" "I", Cond.fieldLink RX7 15 "RayGround$Year" "y" "[I", Cond.fieldLink RX7 18 "RayGround$Year" "z" "[I", Cond.fieldLink RX7 21 "RayGround$Year" "strip" "[I", Cond.fieldLink RX7 27 "RayGround$Year" "byHand" "[I"]
def wsX8_points_r3 : List Cond := [Cond.methodLink RX7 52 yX7_settle, Cond.instanceMethod yX7_settle, Cond.selects RX7 yX7_settle yX7_settle, Cond.code yX7_settle cX7_settle 4 none, Cond.fieldLink RX7 24 "RayGround$Year" "kind" "[I", Cond.fieldLink RX7 30 "RayGround$Year" "round" "[I"]
def wsX8_points : List Cond := .code yX8_points cX8_points 8 (some .int) :: ((wsX8_points_r1 ++ (wsX8_points_r2 ++ wsX8_points_r3)) ++ wsX80 ++ wsX50 ++ wsX70)
def wsX8_told : List Cond := .code yX8_told cX8_told 5 (some .int) :: ([.fieldLink RX8 17 "RayGround" "years" "[LRayGround$Year;", .fieldLink RX8 125 "RayGround$Year" "x" "[I", .fieldLink RX8 128 "RayGround$Year" "y" "[I", .fieldLink RX8 135 "RayGround$Year" "strip" "[I", .fieldLink RX8 138 "RayGround$Year" "kind" "[I", .fieldLink RX8 141 "RayGround$Year" "byHand" "[I", .fieldLink RX8 144 "RayGround$Year" "round" "[I", .methodLink RX8 110 yX8_isYear, .static yX8_isYear, .initialized RX8, .code yX8_isYear cX8_isYear 1 (some .boolean), .methodLink RX8 122 yX7_hasPoint, .instanceMethod yX7_hasPoint, .selects RX7 yX7_hasPoint yX7_hasPoint, .initialized RX7, .code yX7_hasPoint cX7_hasPoint 2 (some .boolean), .fieldLink RX7 40 "RayGround$Year" "size" "I", .methodLink RX8 131 yX7_height, .instanceMethod yX7_height, .selects RX7 yX7_height yX7_height, .code yX7_height cX7_height 2 (some .int), .fieldLink RX7 18 "RayGround$Year" "z" "[I", .fieldLink RX7 33 "RayGround$Year" "shifts" "[I", .fieldLink RX7 21 "RayGround$Year" "strip" "[I"] ++ wsX80 ++ wsX70)
def wsX8_grow_r1 : List Cond := [Cond.fieldLink RX8 17 "RayGround" "years" "[LRayGround$Year;", Cond.methodLink RX8 110 yX8_isYear, Cond.static yX8_isYear, Cond.initialized RX8, Cond.code yX8_isYear cX8_isYear 1 (some .boolean), Cond.methodLink RX8 182 yX7_growGround, Cond.instanceMethod yX7_growGround, Cond.selects RX7 yX7_growGround yX7_growGround, Cond.initialized RX7, Cond.code yX7_growGround cX7_growGround 6 (some .int), Cond.fieldLink RX7 40 "RayGround$Year" "size" "I", Cond.methodLink RX7 71 yX7_startFromSeeds, Cond.instanceMethod yX7_startFromSeeds, Cond.selects RX7 yX7_startFromSeeds yX7_startFromSeeds, Cond.code yX7_startFromSeeds cX7_startFromSeeds 3 none, Cond.fieldLink RX7 27 "RayGround$Year" "byHand" "[I", Cond.methodLink RX7 52 yX7_settle, Cond.instanceMethod yX7_settle, Cond.selects RX7 yX7_settle yX7_settle, Cond.code yX7_settle cX7_settle 4 none, Cond.fieldLink RX7 24 "RayGround$Year" "kind" "[I", Cond.fieldLink RX7 30 "RayGround$Year" "round" "[I", Cond.methodLink RX7 80 yX7_lowestOf, Cond.instanceMethod yX7_lowestOf]
def wsX8_grow_r2 : List Cond := [Cond.selects RX7 yX7_lowestOf yX7_lowestOf, Cond.code yX7_lowestOf cX7_lowestOf 4 (some .int), Cond.fieldLink RX7 11 "RayGround$Year" "x" "[I", Cond.fieldLink RX7 15 "RayGround$Year" "y" "[I", Cond.static yX8_tileOf, Cond.code yX8_tileOf cX8_tileOf 2 (some .int), Cond.methodLink RX7 68 yX7_height, Cond.instanceMethod yX7_height, Cond.selects RX7 yX7_height yX7_height, Cond.code yX7_height cX7_height 2 (some .int), Cond.fieldLink RX7 18 "RayGround$Year" "z" "[I", Cond.fieldLink RX7 33 "RayGround$Year" "shifts" "[I", Cond.fieldLink RX7 21 "RayGround$Year" "strip" "[I", Cond.methodLink RX7 74 yX7_spread, Cond.instanceMethod yX7_spread, Cond.selects RX7 yX7_spread yX7_spread, Cond.code yX7_spread cX7_spread 7 (some .boolean), Cond.methodLink RX7 83 yX7_isReached, Cond.instanceMethod yX7_isReached, Cond.selects RX7 yX7_isReached yX7_isReached, Cond.code yX7_isReached cX7_isReached 7 (some .boolean), Cond.methodLink RX7 87 yX7_isNear, Cond.instanceMethod yX7_isNear, Cond.selects RX7 yX7_isNear yX7_isNear]
def wsX8_grow_r3 : List Cond := [Cond.code yX7_isNear cX7_isNear 4 (some .boolean), Cond.methodLink RX7 94 yX7_squareOfWay, Cond.instanceMethod yX7_squareOfWay, Cond.selects RX7 yX7_squareOfWay yX7_squareOfWay, Cond.code yX7_squareOfWay cX7_squareOfWay 5 (some .int), Cond.methodLink RX7 91 yX7_isEven, Cond.instanceMethod yX7_isEven, Cond.selects RX7 yX7_isEven yX7_isEven, Cond.code yX7_isEven cX7_isEven 7 (some .boolean), Cond.methodLink RX7 77 yX7_countKind, Cond.instanceMethod yX7_countKind, Cond.selects RX7 yX7_countKind yX7_countKind, Cond.code yX7_countKind cX7_countKind 4 (some .int)]
def wsX8_grow : List Cond := .code yX8_grow cX8_grow 5 (some .int) :: ((wsX8_grow_r1 ++ (wsX8_grow_r2 ++ wsX8_grow_r3)) ++ wsX80 ++ wsX70)
def wsX8_count_r1 : List Cond := [Cond.fieldLink RX8 17 "RayGround" "years" "[LRayGround$Year;", Cond.fieldLink RX8 117 "RayGround$Year" "size" "I", Cond.fieldLink RX8 59 "RayGround" "firstGrid" "LRayGround$Grid;", Cond.methodLink RX8 110 yX8_isYear, Cond.static yX8_isYear, Cond.initialized RX8, Cond.code yX8_isYear cX8_isYear 1 (some .boolean), Cond.methodLink RX8 190 yX7_countLost, Cond.instanceMethod yX7_countLost, Cond.selects RX7 yX7_countLost yX7_countLost, Cond.initialized RX7, Cond.code yX7_countLost cX7_countLost 6 (some .int), Cond.fieldLink RX7 36 "RayGround$Year" "lost" "[Z", Cond.methodLink RX8 194 yX1_measure, Cond.instanceMethod yX1_measure, Cond.selects RX1 yX1_measure yX1_measure, Cond.initialized RX1, Cond.code yX1_measure cX1_measure 4 none, Cond.fieldLink RX1 9 "RayGround$Grid" "cells" "[I", Cond.constant RX1 15 (100000), Cond.fieldLink RX1 22 "RayGround$Year" "size" "I", Cond.fieldLink RX1 28 "RayGround$Year" "kind" "[I", Cond.methodLink RX1 38 Lib.Math.min.name, Cond.static Lib.Math.min.name]
def wsX8_count_r2 : List Cond := [Cond.initialized "java/lang/Math", Cond.code Lib.Math.min.name Lib.Math.min.code 2 (some .int), Cond.methodLink RX1 16 yJ7_fill_53178, Cond.static yJ7_fill_53178, Cond.initialized RJ7, Cond.code yJ7_fill_53178 cJ7_fill_53178 4 none, Cond.methodLink RX1 31 yX7_square, Cond.instanceMethod yX7_square, Cond.selects RX7 yX7_square yX7_square, Cond.code yX7_square cX7_square 2 (some .int), Cond.fieldLink RX7 11 "RayGround$Year" "x" "[I", Cond.fieldLink RX7 15 "RayGround$Year" "y" "[I", Cond.methodLink RX1 35 yX7_height, Cond.instanceMethod yX7_height, Cond.selects RX7 yX7_height yX7_height, Cond.code yX7_height cX7_height 2 (some .int), Cond.fieldLink RX7 18 "RayGround$Year" "z" "[I", Cond.fieldLink RX7 33 "RayGround$Year" "shifts" "[I", Cond.fieldLink RX7 21 "RayGround$Year" "strip" "[I", Cond.methodLink RX8 198 yX1_countFilled, Cond.instanceMethod yX1_countFilled, Cond.selects RX1 yX1_countFilled yX1_countFilled, Cond.code yX1_countFilled cX1_countFilled 6 (some .int), Cond.methodLink RX8 201 yX7_countKind]
def wsX8_count_r3 : List Cond := [Cond.instanceMethod yX7_countKind, Cond.selects RX7 yX7_countKind yX7_countKind, Cond.code yX7_countKind cX7_countKind 4 (some .int), Cond.fieldLink RX7 40 "RayGround$Year" "size" "I", Cond.fieldLink RX7 24 "RayGround$Year" "kind" "[I"]
def wsX8_count : List Cond := .code yX8_count cX8_count 4 (some .int) :: ((wsX8_count_r1 ++ (wsX8_count_r2 ++ wsX8_count_r3)) ++ wsX80 ++ wsX70 ++ wsX10)
def wsX8_isSquare : List Cond := .code yX8_isSquare cX8_isSquare 1 (some .boolean) :: ([])
def wsX8_grid_r1 : List Cond := [Cond.fieldLink RX8 59 "RayGround" "firstGrid" "LRayGround$Grid;", Cond.fieldLink RX8 17 "RayGround" "years" "[LRayGround$Year;", Cond.methodLink RX8 110 yX8_isYear, Cond.static yX8_isYear, Cond.initialized RX8, Cond.code yX8_isYear cX8_isYear 1 (some .boolean), Cond.methodLink RX8 204 yX8_isSquare, Cond.static yX8_isSquare, Cond.code yX8_isSquare cX8_isSquare 1 (some .boolean), Cond.methodLink RX8 194 yX1_measure, Cond.instanceMethod yX1_measure, Cond.selects RX1 yX1_measure yX1_measure, Cond.initialized RX1, Cond.code yX1_measure cX1_measure 4 none, Cond.fieldLink RX1 9 "RayGround$Grid" "cells" "[I", Cond.constant RX1 15 (100000), Cond.fieldLink RX1 22 "RayGround$Year" "size" "I", Cond.fieldLink RX1 28 "RayGround$Year" "kind" "[I", Cond.methodLink RX1 38 Lib.Math.min.name, Cond.static Lib.Math.min.name, Cond.initialized "java/lang/Math", Cond.code Lib.Math.min.name Lib.Math.min.code 2 (some .int), Cond.methodLink RX1 16 yJ7_fill_53178, Cond.static yJ7_fill_53178]
def wsX8_grid_r2 : List Cond := [Cond.initialized RJ7, Cond.code yJ7_fill_53178 cJ7_fill_53178 4 none, Cond.methodLink RX1 31 yX7_square, Cond.instanceMethod yX7_square, Cond.selects RX7 yX7_square yX7_square, Cond.initialized RX7, Cond.code yX7_square cX7_square 2 (some .int), Cond.fieldLink RX7 11 "RayGround$Year" "x" "[I", Cond.fieldLink RX7 15 "RayGround$Year" "y" "[I", Cond.methodLink RX1 35 yX7_height, Cond.instanceMethod yX7_height, Cond.selects RX7 yX7_height yX7_height, Cond.code yX7_height cX7_height 2 (some .int), Cond.fieldLink RX7 18 "RayGround$Year" "z" "[I", Cond.fieldLink RX7 33 "RayGround$Year" "shifts" "[I", Cond.fieldLink RX7 21 "RayGround$Year" "strip" "[I", Cond.methodLink RX8 207 yX1_at, Cond.instanceMethod yX1_at, Cond.selects RX1 yX1_at yX1_at, Cond.code yX1_at cX1_at 3 (some .int)]
def wsX8_grid : List Cond := .code yX8_grid cX8_grid 4 (some .int) :: ((wsX8_grid_r1 ++ wsX8_grid_r2) ++ wsX80 ++ wsX10 ++ wsX70)
def wsX8_isLevel : List Cond := .code yX8_isLevel cX8_isLevel 1 (some .boolean) :: ([])
def wsX8_volume_r1 : List Cond := [Cond.fieldLink RX8 59 "RayGround" "firstGrid" "LRayGround$Grid;", Cond.fieldLink RX8 17 "RayGround" "years" "[LRayGround$Year;", Cond.methodLink RX8 110 yX8_isYear, Cond.static yX8_isYear, Cond.initialized RX8, Cond.code yX8_isYear cX8_isYear 1 (some .boolean), Cond.methodLink RX8 211 yX8_isLevel, Cond.static yX8_isLevel, Cond.code yX8_isLevel cX8_isLevel 1 (some .boolean), Cond.methodLink RX8 194 yX1_measure, Cond.instanceMethod yX1_measure, Cond.selects RX1 yX1_measure yX1_measure, Cond.initialized RX1, Cond.code yX1_measure cX1_measure 4 none, Cond.fieldLink RX1 9 "RayGround$Grid" "cells" "[I", Cond.constant RX1 15 (100000), Cond.fieldLink RX1 22 "RayGround$Year" "size" "I", Cond.fieldLink RX1 28 "RayGround$Year" "kind" "[I", Cond.methodLink RX1 38 Lib.Math.min.name, Cond.static Lib.Math.min.name, Cond.initialized "java/lang/Math", Cond.code Lib.Math.min.name Lib.Math.min.code 2 (some .int), Cond.methodLink RX1 16 yJ7_fill_53178, Cond.static yJ7_fill_53178]
def wsX8_volume_r2 : List Cond := [Cond.initialized RJ7, Cond.code yJ7_fill_53178 cJ7_fill_53178 4 none, Cond.methodLink RX1 31 yX7_square, Cond.instanceMethod yX7_square, Cond.selects RX7 yX7_square yX7_square, Cond.initialized RX7, Cond.code yX7_square cX7_square 2 (some .int), Cond.fieldLink RX7 11 "RayGround$Year" "x" "[I", Cond.fieldLink RX7 15 "RayGround$Year" "y" "[I", Cond.methodLink RX1 35 yX7_height, Cond.instanceMethod yX7_height, Cond.selects RX7 yX7_height yX7_height, Cond.code yX7_height cX7_height 2 (some .int), Cond.fieldLink RX7 18 "RayGround$Year" "z" "[I", Cond.fieldLink RX7 33 "RayGround$Year" "shifts" "[I", Cond.fieldLink RX7 21 "RayGround$Year" "strip" "[I", Cond.methodLink RX8 214 yX1_volumeAbove, Cond.instanceMethod yX1_volumeAbove, Cond.selects RX1 yX1_volumeAbove yX1_volumeAbove, Cond.code yX1_volumeAbove cX1_volumeAbove 6 (some .long), Cond.constantLong RX1 54 (6), Cond.constantLong RX1 56 (8), Cond.methodLink RX1 48 yX1_isQuad, Cond.instanceMethod yX1_isQuad]
def wsX8_volume_r3 : List Cond := [Cond.selects RX1 yX1_isQuad yX1_isQuad, Cond.code yX1_isQuad cX1_isQuad 3 (some .boolean), Cond.methodLink RX1 44 yX1_isFilled, Cond.instanceMethod yX1_isFilled, Cond.selects RX1 yX1_isFilled yX1_isFilled, Cond.code yX1_isFilled cX1_isFilled 3 (some .boolean), Cond.methodLink RX1 51 yX1_sumOfBoth, Cond.instanceMethod yX1_sumOfBoth, Cond.selects RX1 yX1_sumOfBoth yX1_sumOfBoth, Cond.code yX1_sumOfBoth cX1_sumOfBoth 3 (some .int), Cond.methodLink RX1 58 yX1_at, Cond.instanceMethod yX1_at, Cond.selects RX1 yX1_at yX1_at, Cond.code yX1_at cX1_at 3 (some .int)]
def wsX8_volume : List Cond := .code yX8_volume cX8_volume 3 (some .long) :: ((wsX8_volume_r1 ++ (wsX8_volume_r2 ++ wsX8_volume_r3)) ++ wsX80 ++ wsX10 ++ wsX70)
def wsX8_thirds_r1 : List Cond := [Cond.fieldLink RX8 59 "RayGround" "firstGrid" "LRayGround$Grid;", Cond.fieldLink RX8 17 "RayGround" "years" "[LRayGround$Year;", Cond.methodLink RX8 110 yX8_isYear, Cond.static yX8_isYear, Cond.initialized RX8, Cond.code yX8_isYear cX8_isYear 1 (some .boolean), Cond.methodLink RX8 194 yX1_measure, Cond.instanceMethod yX1_measure, Cond.selects RX1 yX1_measure yX1_measure, Cond.initialized RX1, Cond.code yX1_measure cX1_measure 4 none, Cond.fieldLink RX1 9 "RayGround$Grid" "cells" "[I", Cond.constant RX1 15 (100000), Cond.fieldLink RX1 22 "RayGround$Year" "size" "I", Cond.fieldLink RX1 28 "RayGround$Year" "kind" "[I", Cond.methodLink RX1 38 Lib.Math.min.name, Cond.static Lib.Math.min.name, Cond.initialized "java/lang/Math", Cond.code Lib.Math.min.name Lib.Math.min.code 2 (some .int), Cond.methodLink RX1 16 yJ7_fill_53178, Cond.static yJ7_fill_53178, Cond.initialized RJ7, Cond.code yJ7_fill_53178 cJ7_fill_53178 4 none, Cond.methodLink RX1 31 yX7_square]
def wsX8_thirds_r2 : List Cond := [Cond.instanceMethod yX7_square, Cond.selects RX7 yX7_square yX7_square, Cond.initialized RX7, Cond.code yX7_square cX7_square 2 (some .int), Cond.fieldLink RX7 11 "RayGround$Year" "x" "[I", Cond.fieldLink RX7 15 "RayGround$Year" "y" "[I", Cond.methodLink RX1 35 yX7_height, Cond.instanceMethod yX7_height, Cond.selects RX7 yX7_height yX7_height, Cond.code yX7_height cX7_height 2 (some .int), Cond.fieldLink RX7 18 "RayGround$Year" "z" "[I", Cond.fieldLink RX7 33 "RayGround$Year" "shifts" "[I", Cond.fieldLink RX7 21 "RayGround$Year" "strip" "[I", Cond.methodLink RX8 218 yX1_countThirds, Cond.instanceMethod yX1_countThirds, Cond.selects RX1 yX1_countThirds yX1_countThirds, Cond.code yX1_countThirds cX1_countThirds 4 (some .int), Cond.methodLink RX1 48 yX1_isQuad, Cond.instanceMethod yX1_isQuad, Cond.selects RX1 yX1_isQuad yX1_isQuad, Cond.code yX1_isQuad cX1_isQuad 3 (some .boolean), Cond.methodLink RX1 44 yX1_isFilled, Cond.instanceMethod yX1_isFilled, Cond.selects RX1 yX1_isFilled yX1_isFilled]
def wsX8_thirds_r3 : List Cond := [Cond.code yX1_isFilled cX1_isFilled 3 (some .boolean)]
def wsX8_thirds : List Cond := .code yX8_thirds cX8_thirds 2 (some .int) :: ((wsX8_thirds_r1 ++ (wsX8_thirds_r2 ++ wsX8_thirds_r3)) ++ wsX80 ++ wsX10 ++ wsX70)
def wsX8_lines_r1 : List Cond := [Cond.fieldLink RX8 59 "RayGround" "firstGrid" "LRayGround$Grid;", Cond.fieldLink RX8 17 "RayGround" "years" "[LRayGround$Year;", Cond.fieldLink RX8 52 "RayGround" "lineWalk" "LRayGround$LineWalk;", Cond.methodLink RX8 110 yX8_isYear, Cond.static yX8_isYear, Cond.initialized RX8, Cond.code yX8_isYear cX8_isYear 1 (some .boolean), Cond.methodLink RX8 211 yX8_isLevel, Cond.static yX8_isLevel, Cond.code yX8_isLevel cX8_isLevel 1 (some .boolean), Cond.methodLink RX8 194 yX1_measure, Cond.instanceMethod yX1_measure, Cond.selects RX1 yX1_measure yX1_measure, Cond.initialized RX1, Cond.code yX1_measure cX1_measure 4 none, Cond.fieldLink RX1 9 "RayGround$Grid" "cells" "[I", Cond.constant RX1 15 (100000), Cond.fieldLink RX1 22 "RayGround$Year" "size" "I", Cond.fieldLink RX1 28 "RayGround$Year" "kind" "[I", Cond.methodLink RX1 38 Lib.Math.min.name, Cond.static Lib.Math.min.name, Cond.initialized "java/lang/Math", Cond.code Lib.Math.min.name Lib.Math.min.code 2 (some .int), Cond.methodLink RX1 16 yJ7_fill_53178]
def wsX8_lines_r2 : List Cond := [Cond.static yJ7_fill_53178, Cond.initialized RJ7, Cond.code yJ7_fill_53178 cJ7_fill_53178 4 none, Cond.methodLink RX1 31 yX7_square, Cond.instanceMethod yX7_square, Cond.selects RX7 yX7_square yX7_square, Cond.initialized RX7, Cond.code yX7_square cX7_square 2 (some .int), Cond.fieldLink RX7 11 "RayGround$Year" "x" "[I", Cond.fieldLink RX7 15 "RayGround$Year" "y" "[I", Cond.methodLink RX1 35 yX7_height, Cond.instanceMethod yX7_height, Cond.selects RX7 yX7_height yX7_height, Cond.code yX7_height cX7_height 2 (some .int), Cond.fieldLink RX7 18 "RayGround$Year" "z" "[I", Cond.fieldLink RX7 33 "RayGround$Year" "shifts" "[I", Cond.fieldLink RX7 21 "RayGround$Year" "strip" "[I", Cond.methodLink RX8 221 yX3_countLines, Cond.instanceMethod yX3_countLines, Cond.selects RX3 yX3_countLines yX3_countLines, Cond.initialized RX3, Cond.code yX3_countLines cX3_countLines 7 (some .int), Cond.fieldLink RX3 11 "RayGround$LineWalk" "seen" "[Z", Cond.methodLink RX3 23 yX3_isCrossed]
def wsX8_lines_r3 : List Cond := [Cond.instanceMethod yX3_isCrossed, Cond.selects RX3 yX3_isCrossed yX3_isCrossed, Cond.code yX3_isCrossed cX3_isCrossed 5 (some .boolean), Cond.methodLink RX3 42 yX3_column, Cond.instanceMethod yX3_column, Cond.selects RX3 yX3_column yX3_column, Cond.code yX3_column cX3_column 2 (some .int), Cond.methodLink RX3 46 yX3_row, Cond.instanceMethod yX3_row, Cond.selects RX3 yX3_row yX3_row, Cond.code yX3_row cX3_row 2 (some .int), Cond.methodLink RX3 49 yX1_isQuad, Cond.instanceMethod yX1_isQuad, Cond.selects RX1 yX1_isQuad yX1_isQuad, Cond.code yX1_isQuad cX1_isQuad 3 (some .boolean), Cond.methodLink RX1 44 yX1_isFilled, Cond.instanceMethod yX1_isFilled, Cond.selects RX1 yX1_isFilled yX1_isFilled, Cond.code yX1_isFilled cX1_isFilled 3 (some .boolean), Cond.methodLink RX3 53 yX3_isAbove, Cond.instanceMethod yX3_isAbove, Cond.selects RX3 yX3_isAbove yX3_isAbove, Cond.code yX3_isAbove cX3_isAbove 7 (some .boolean), Cond.methodLink RX3 56 yX3_isUpper]
def wsX8_lines_r4 : List Cond := [Cond.instanceMethod yX3_isUpper, Cond.selects RX3 yX3_isUpper yX3_isUpper, Cond.code yX3_isUpper cX3_isUpper 2 (some .boolean), Cond.methodLink RX3 60 yX1_at, Cond.instanceMethod yX1_at, Cond.selects RX1 yX1_at yX1_at, Cond.code yX1_at cX1_at 3 (some .int), Cond.methodLink RX3 27 yX3_walkFrom, Cond.instanceMethod yX3_walkFrom, Cond.selects RX3 yX3_walkFrom yX3_walkFrom, Cond.code yX3_walkFrom cX3_walkFrom 8 (some .boolean), Cond.fieldLink RX3 19 "RayGround$LineWalk" "queued" "I", Cond.fieldLink RX3 15 "RayGround$LineWalk" "queue" "[I", Cond.methodLink RX3 30 yX3_enqueue, Cond.instanceMethod yX3_enqueue, Cond.selects RX3 yX3_enqueue yX3_enqueue, Cond.code yX3_enqueue cX3_enqueue 2 none, Cond.methodLink RX3 34 yX3_isEdgeCrossed, Cond.instanceMethod yX3_isEdgeCrossed, Cond.selects RX3 yX3_isEdgeCrossed yX3_isEdgeCrossed, Cond.code yX3_isEdgeCrossed cX3_isEdgeCrossed 5 (some .boolean), Cond.methodLink RX3 38 yX3_beyond, Cond.instanceMethod yX3_beyond, Cond.selects RX3 yX3_beyond yX3_beyond]
def wsX8_lines_r5 : List Cond := [Cond.code yX3_beyond cX3_beyond 7 (some .int), Cond.methodLink RX3 64 yX3_thirdAt, Cond.instanceMethod yX3_thirdAt, Cond.selects RX3 yX3_thirdAt yX3_thirdAt, Cond.code yX3_thirdAt cX3_thirdAt 5 (some .int)]
def wsX8_lines : List Cond := .code yX8_lines cX8_lines 4 (some .int) :: ((wsX8_lines_r1 ++ (wsX8_lines_r2 ++ (wsX8_lines_r3 ++ (wsX8_lines_r4 ++ wsX8_lines_r5)))) ++ wsX80 ++ wsX10 ++ wsX70 ++ wsX30)
def wsX8_changed_r1 : List Cond := [Cond.constant RX8 225 (-1000001), Cond.fieldLink RX8 59 "RayGround" "firstGrid" "LRayGround$Grid;", Cond.fieldLink RX8 17 "RayGround" "years" "[LRayGround$Year;", Cond.fieldLink RX8 63 "RayGround" "secondGrid" "LRayGround$Grid;", Cond.methodLink RX8 194 yX1_measure, Cond.instanceMethod yX1_measure, Cond.selects RX1 yX1_measure yX1_measure, Cond.initialized RX1, Cond.code yX1_measure cX1_measure 4 none, Cond.fieldLink RX1 9 "RayGround$Grid" "cells" "[I", Cond.constant RX1 15 (100000), Cond.fieldLink RX1 22 "RayGround$Year" "size" "I", Cond.fieldLink RX1 28 "RayGround$Year" "kind" "[I", Cond.methodLink RX1 38 Lib.Math.min.name, Cond.static Lib.Math.min.name, Cond.initialized "java/lang/Math", Cond.code Lib.Math.min.name Lib.Math.min.code 2 (some .int), Cond.methodLink RX1 16 yJ7_fill_53178, Cond.static yJ7_fill_53178, Cond.initialized RJ7, Cond.code yJ7_fill_53178 cJ7_fill_53178 4 none, Cond.methodLink RX1 31 yX7_square, Cond.instanceMethod yX7_square, Cond.selects RX7 yX7_square yX7_square]
def wsX8_changed_r2 : List Cond := [Cond.initialized RX7, Cond.code yX7_square cX7_square 2 (some .int), Cond.fieldLink RX7 11 "RayGround$Year" "x" "[I", Cond.fieldLink RX7 15 "RayGround$Year" "y" "[I", Cond.methodLink RX1 35 yX7_height, Cond.instanceMethod yX7_height, Cond.selects RX7 yX7_height yX7_height, Cond.code yX7_height cX7_height 2 (some .int), Cond.fieldLink RX7 18 "RayGround$Year" "z" "[I", Cond.fieldLink RX7 33 "RayGround$Year" "shifts" "[I", Cond.fieldLink RX7 21 "RayGround$Year" "strip" "[I", Cond.methodLink RX8 226 yX1_countBoth, Cond.instanceMethod yX1_countBoth, Cond.selects RX1 yX1_countBoth yX1_countBoth, Cond.code yX1_countBoth cX1_countBoth 4 (some .int), Cond.methodLink RX1 61 yX1_bothFilled, Cond.instanceMethod yX1_bothFilled, Cond.selects RX1 yX1_bothFilled yX1_bothFilled, Cond.code yX1_bothFilled cX1_bothFilled 3 (some .boolean), Cond.methodLink RX8 230 yX1_countRisen, Cond.instanceMethod yX1_countRisen, Cond.selects RX1 yX1_countRisen yX1_countRisen, Cond.code yX1_countRisen cX1_countRisen 6 (some .int), Cond.methodLink RX8 234 yX1_sumOfRises]
def wsX8_changed_r3 : List Cond := [Cond.instanceMethod yX1_sumOfRises, Cond.selects RX1 yX1_sumOfRises yX1_sumOfRises, Cond.code yX1_sumOfRises cX1_sumOfRises 4 (some .int)]
def wsX8_changed : List Cond := .code yX8_changed cX8_changed 3 (some .int) :: ((wsX8_changed_r1 ++ (wsX8_changed_r2 ++ wsX8_changed_r3)) ++ wsX80 ++ wsX10 ++ wsX70)
def wsJ9_min_7cf53 : List Cond := .code yJ9_min_7cf53 cJ9_min_7cf53 2 (some .int) :: ([])
def wsL_cell : List Cond := .code yL_cell cL_cell 2 (some .int) :: ([.constant RL 7 (625341585)])
def wsL_some : List Cond := .code yL_some cL_some 2 (some .int) :: ([.constant RL 8 (2147483647)])
def wsL_point_r1 : List Cond := [Cond.methodLink RL 9 yX8_sheet, Cond.instanceMethod yX8_sheet, Cond.selects RX8 yX8_sheet yX8_sheet, Cond.initialized RX8, Cond.code yX8_sheet cX8_sheet 4 (some .int), Cond.fieldLink RX8 11 "RayGround" "sheetRows" "[LRayGround$Sheet;", Cond.methodLink RX8 68 yX8_isSheet, Cond.static yX8_isSheet, Cond.code yX8_isSheet cX8_isSheet 1 (some .boolean), Cond.methodLink RX8 72 yX8_isLane, Cond.static yX8_isLane, Cond.code yX8_isLane cX8_isLane 1 (some .boolean), Cond.methodLink RX8 75 yX5_renew, Cond.instanceMethod yX5_renew, Cond.selects RX5 yX5_renew yX5_renew, Cond.initialized RX5, Cond.code yX5_renew cX5_renew 3 none, Cond.fieldLink RX5 9 "RayGround$Sheet" "items" "[I", Cond.fieldLink RX5 13 "RayGround$Sheet" "lane" "I", Cond.fieldLink RX5 17 "RayGround$Sheet" "size" "I", Cond.methodLink RX5 20 yJ7_fill_53178, Cond.static yJ7_fill_53178, Cond.initialized RJ7, Cond.code yJ7_fill_53178 cJ7_fill_53178 4 none]
def wsL_point_r2 : List Cond := [Cond.methodLink RL 15 yX8_item, Cond.instanceMethod yX8_item, Cond.selects RX8 yX8_item yX8_item, Cond.code yX8_item cX8_item 6 (some .int), Cond.fieldLink RX8 90 "RayGround$Sheet" "lane" "I", Cond.methodLink RX8 79 yX5_holds, Cond.instanceMethod yX5_holds, Cond.selects RX5 yX5_holds yX5_holds, Cond.code yX5_holds cX5_holds 1 (some .boolean), Cond.methodLink RX8 93 yX5_hasRange, Cond.instanceMethod yX5_hasRange, Cond.selects RX5 yX5_hasRange yX5_hasRange, Cond.code yX5_hasRange cX5_hasRange 3 (some .boolean), Cond.methodLink RX8 97 yX5_put, Cond.instanceMethod yX5_put, Cond.selects RX5 yX5_put yX5_put, Cond.code yX5_put cX5_put 3 none, Cond.methodLink RL 19 yX8_points, Cond.instanceMethod yX8_points, Cond.selects RX8 yX8_points yX8_points, Cond.code yX8_points cX8_points 8 (some .int), Cond.fieldLink RX8 17 "RayGround" "years" "[LRayGround$Year;", Cond.fieldLink RX8 100 "RayGround$Sheet" "items" "[I", Cond.fieldLink RX8 117 "RayGround$Year" "size" "I"]
def wsL_point_r3 : List Cond := [Cond.methodLink RX8 110 yX8_isYear, Cond.static yX8_isYear, Cond.code yX8_isYear cX8_isYear 1 (some .boolean), Cond.methodLink RX8 113 yX7_canTake, Cond.instanceMethod yX7_canTake, Cond.selects RX7 yX7_canTake yX7_canTake, Cond.initialized RX7, Cond.code yX7_canTake cX7_canTake 6 (some .boolean), Cond.methodLink RX7 44 yX7_isPoint, Cond.instanceMethod yX7_isPoint, Cond.selects RX7 yX7_isPoint yX7_isPoint, Cond.code yX7_isPoint cX7_isPoint 5 (some .boolean), Cond.fieldLink RX7 36 "RayGround$Year" "lost" "[Z", Cond.static yX8_tileOf, Cond.code yX8_tileOf cX8_tileOf 2 (some .int), Cond.methodLink RX8 118 yX7_take, Cond.instanceMethod yX7_take, Cond.selects RX7 yX7_take yX7_take, Cond.code yX7_take cX7_take 6 none, Cond.fieldLink RX7 11 "RayGround$Year" "x" "[I", Cond.fieldLink RX7 40 "RayGround$Year" "size" "I", Cond.fieldLink RX7 15 "RayGround$Year" "y" "[I", Cond.fieldLink RX7 18 "RayGround$Year" "z" "[I", Cond.fieldLink RX7 21 "RayGround$Year" "strip" "[I"]
def wsL_point_r4 : List Cond := [Cond.fieldLink RX7 27 "RayGround$Year" "byHand" "[I", Cond.methodLink RX7 52 yX7_settle, Cond.instanceMethod yX7_settle, Cond.selects RX7 yX7_settle yX7_settle, Cond.code yX7_settle cX7_settle 4 none, Cond.fieldLink RX7 24 "RayGround$Year" "kind" "[I", Cond.fieldLink RX7 30 "RayGround$Year" "round" "[I"]
def wsL_point : List Cond := .code yL_point cL_point 7 (some .int) :: ((wsL_point_r1 ++ (wsL_point_r2 ++ (wsL_point_r3 ++ wsL_point_r4))) ++ wsX80 ++ wsX50 ++ wsX70)
def wsL_law_r1 : List Cond := [Cond.classLink RL 10 RX8, Cond.instantiable RX8 9, Cond.initialized RX8, Cond.methodLink RL 23 yL_cell, Cond.static yL_cell, Cond.initialized RL, Cond.code yL_cell cL_cell 2 (some .int), Cond.constant RL 7 (625341585), Cond.methodLink RL 29 yX8_init, Cond.instanceMethod yX8_init, Cond.code yX8_init cX8_init 2 none, Cond.methodLink RX8 1 objectInit, Cond.instanceMethod objectInit, Cond.code objectInit ⟨#[0xb1]⟩ 1 none, Cond.classLink RX8 9 RX5, Cond.fieldLink RX8 11 "RayGround" "sheetRows" "[LRayGround$Sheet;", Cond.classLink RX8 15 RX7, Cond.fieldLink RX8 17 "RayGround" "years" "[LRayGround$Year;", Cond.classLink RX8 21 RX6, Cond.instantiable RX6 2, Cond.initialized RX6, Cond.fieldLink RX8 24 "RayGround" "tape" "LRayGround$Tape;", Cond.classLink RX8 28 RX2, Cond.instantiable RX2 9]
def wsL_law_r2 : List Cond := [Cond.initialized RX2, Cond.fieldLink RX8 31 "RayGround" "jobText" "LRayGround$JobText;", Cond.classLink RX8 35 RX0, Cond.instantiable RX0 4, Cond.initialized RX0, Cond.fieldLink RX8 38 "RayGround" "fitting" "LRayGround$Fitting;", Cond.classLink RX8 42 RX4, Cond.instantiable RX4 13, Cond.initialized RX4, Cond.fieldLink RX8 45 "RayGround" "roofFinder" "LRayGround$RoofFinder;", Cond.classLink RX8 49 RX3, Cond.instantiable RX3 3, Cond.initialized RX3, Cond.fieldLink RX8 52 "RayGround" "lineWalk" "LRayGround$LineWalk;", Cond.classLink RX8 56 RX1, Cond.instantiable RX1 1, Cond.initialized RX1, Cond.fieldLink RX8 59 "RayGround" "firstGrid" "LRayGround$Grid;", Cond.fieldLink RX8 63 "RayGround" "secondGrid" "LRayGround$Grid;", Cond.instantiable RX5 3, Cond.initialized RX5, Cond.instantiable RX7 10, Cond.initialized RX7, Cond.instanceMethod yX6_init]
def wsL_law_r3 : List Cond := [Cond.code yX6_init cX6_init 1 none, Cond.methodLink RX6 1 objectInit, Cond.arrayClass .char, Cond.fieldLink RX6 9 "RayGround$Tape" "bytes" "[C", Cond.fieldLink RX6 13 "RayGround$Tape" "size" "I", Cond.instanceMethod yX2_init, Cond.code yX2_init cX2_init 1 none, Cond.methodLink RX2 5 objectInit, Cond.fieldLink RX2 13 "RayGround$JobText" "letter" "[C", Cond.arrayClass .int, Cond.fieldLink RX2 17 "RayGround$JobText" "first" "[I", Cond.fieldLink RX2 21 "RayGround$JobText" "second" "[I", Cond.fieldLink RX2 24 "RayGround$JobText" "third" "[I", Cond.fieldLink RX2 27 "RayGround$JobText" "steps" "I", Cond.fieldLink RX2 31 "RayGround$JobText" "bytes" "[C", Cond.fieldLink RX2 34 "RayGround$JobText" "size" "I", Cond.fieldLink RX2 37 "RayGround$JobText" "at" "I", Cond.fieldLink RX2 40 "RayGround$JobText" "faulty" "Z", Cond.instanceMethod yX0_init, Cond.code yX0_init cX0_init 1 none, Cond.methodLink RX0 3 objectInit, Cond.fieldLink RX0 9 "RayGround$Fitting" "pointsOf" "[I", Cond.classLink RX0 15 "[[J", Cond.arrayClass .long]
def wsL_law_r4 : List Cond := [Cond.fieldLink RX0 17 "RayGround$Fitting" "left" "[[J", Cond.fieldLink RX0 20 "RayGround$Fitting" "right" "[J", Cond.fieldLink RX0 24 "RayGround$Fitting" "found" "[I", Cond.instanceMethod yX4_init, Cond.code yX4_init cX4_init 1 none, Cond.methodLink RX4 3 objectInit, Cond.fieldLink RX4 11 "RayGround$RoofFinder" "number" "[I", Cond.fieldLink RX4 15 "RayGround$RoofFinder" "x" "[I", Cond.fieldLink RX4 18 "RayGround$RoofFinder" "y" "[I", Cond.fieldLink RX4 21 "RayGround$RoofFinder" "height" "[I", Cond.fieldLink RX4 24 "RayGround$RoofFinder" "size" "I", Cond.fieldLink RX4 28 "RayGround$RoofFinder" "base" "I", Cond.fieldLink RX4 31 "RayGround$RoofFinder" "normalX" "J", Cond.fieldLink RX4 35 "RayGround$RoofFinder" "normalY" "J", Cond.fieldLink RX4 38 "RayGround$RoofFinder" "normalH" "J", Cond.fieldLink RX4 41 "RayGround$RoofFinder" "bestCount" "I", Cond.fieldLink RX4 44 "RayGround$RoofFinder" "bestI" "I", Cond.fieldLink RX4 47 "RayGround$RoofFinder" "bestJ" "I", Cond.fieldLink RX4 50 "RayGround$RoofFinder" "bestK" "I", Cond.instanceMethod yX3_init, Cond.code yX3_init cX3_init 1 none, Cond.methodLink RX3 5 objectInit, Cond.arrayClass .boolean, Cond.fieldLink RX3 11 "RayGround$LineWalk" "seen" "[Z"]
def wsL_law_r5 : List Cond := [Cond.fieldLink RX3 15 "RayGround$LineWalk" "queue" "[I", Cond.fieldLink RX3 19 "RayGround$LineWalk" "queued" "I", Cond.instanceMethod yX1_init, Cond.code yX1_init cX1_init 1 none, Cond.methodLink RX1 3 objectInit, Cond.fieldLink RX1 9 "RayGround$Grid" "cells" "[I", Cond.instanceMethod yX5_init, Cond.code yX5_init cX5_init 1 none, Cond.methodLink RX5 1 objectInit, Cond.fieldLink RX5 9 "RayGround$Sheet" "items" "[I", Cond.fieldLink RX5 13 "RayGround$Sheet" "lane" "I", Cond.fieldLink RX5 17 "RayGround$Sheet" "size" "I", Cond.instanceMethod yX7_init, Cond.code yX7_init cX7_init 1 none, Cond.methodLink RX7 3 objectInit, Cond.fieldLink RX7 11 "RayGround$Year" "x" "[I", Cond.fieldLink RX7 15 "RayGround$Year" "y" "[I", Cond.fieldLink RX7 18 "RayGround$Year" "z" "[I", Cond.fieldLink RX7 21 "RayGround$Year" "strip" "[I", Cond.fieldLink RX7 24 "RayGround$Year" "kind" "[I", Cond.fieldLink RX7 27 "RayGround$Year" "byHand" "[I", Cond.fieldLink RX7 30 "RayGround$Year" "round" "[I", Cond.fieldLink RX7 33 "RayGround$Year" "shifts" "[I", Cond.fieldLink RX7 36 "RayGround$Year" "lost" "[Z"]
def wsL_law_r6 : List Cond := [Cond.fieldLink RX7 40 "RayGround$Year" "size" "I", Cond.methodLink RL 30 yL_some, Cond.static yL_some, Cond.code yL_some cL_some 2 (some .int), Cond.constant RL 8 (2147483647), Cond.methodLink RL 34 yL_point, Cond.static yL_point, Cond.code yL_point cL_point 7 (some .int), Cond.methodLink RL 9 yX8_sheet, Cond.instanceMethod yX8_sheet, Cond.selects RX8 yX8_sheet yX8_sheet, Cond.code yX8_sheet cX8_sheet 4 (some .int), Cond.methodLink RX8 68 yX8_isSheet, Cond.static yX8_isSheet, Cond.code yX8_isSheet cX8_isSheet 1 (some .boolean), Cond.methodLink RX8 72 yX8_isLane, Cond.static yX8_isLane, Cond.code yX8_isLane cX8_isLane 1 (some .boolean), Cond.methodLink RX8 75 yX5_renew, Cond.instanceMethod yX5_renew, Cond.selects RX5 yX5_renew yX5_renew, Cond.code yX5_renew cX5_renew 3 none, Cond.methodLink RX5 20 yJ7_fill_53178, Cond.static yJ7_fill_53178]
def wsL_law_r7 : List Cond := [Cond.initialized RJ7, Cond.code yJ7_fill_53178 cJ7_fill_53178 4 none, Cond.methodLink RL 15 yX8_item, Cond.instanceMethod yX8_item, Cond.selects RX8 yX8_item yX8_item, Cond.code yX8_item cX8_item 6 (some .int), Cond.fieldLink RX8 90 "RayGround$Sheet" "lane" "I", Cond.methodLink RX8 79 yX5_holds, Cond.instanceMethod yX5_holds, Cond.selects RX5 yX5_holds yX5_holds, Cond.code yX5_holds cX5_holds 1 (some .boolean), Cond.methodLink RX8 93 yX5_hasRange, Cond.instanceMethod yX5_hasRange, Cond.selects RX5 yX5_hasRange yX5_hasRange, Cond.code yX5_hasRange cX5_hasRange 3 (some .boolean), Cond.methodLink RX8 97 yX5_put, Cond.instanceMethod yX5_put, Cond.selects RX5 yX5_put yX5_put, Cond.code yX5_put cX5_put 3 none, Cond.methodLink RL 19 yX8_points, Cond.instanceMethod yX8_points, Cond.selects RX8 yX8_points yX8_points, Cond.code yX8_points cX8_points 8 (some .int), Cond.fieldLink RX8 100 "RayGround$Sheet" "items" "[I"]
def wsL_law_r8 : List Cond := [Cond.fieldLink RX8 117 "RayGround$Year" "size" "I", Cond.methodLink RX8 110 yX8_isYear, Cond.static yX8_isYear, Cond.code yX8_isYear cX8_isYear 1 (some .boolean), Cond.methodLink RX8 113 yX7_canTake, Cond.instanceMethod yX7_canTake, Cond.selects RX7 yX7_canTake yX7_canTake, Cond.code yX7_canTake cX7_canTake 6 (some .boolean), Cond.methodLink RX7 44 yX7_isPoint, Cond.instanceMethod yX7_isPoint, Cond.selects RX7 yX7_isPoint yX7_isPoint, Cond.code yX7_isPoint cX7_isPoint 5 (some .boolean), Cond.static yX8_tileOf, Cond.code yX8_tileOf cX8_tileOf 2 (some .int), Cond.methodLink RX8 118 yX7_take, Cond.instanceMethod yX7_take, Cond.selects RX7 yX7_take yX7_take, Cond.code yX7_take cX7_take 6 none, Cond.methodLink RX7 52 yX7_settle, Cond.instanceMethod yX7_settle, Cond.selects RX7 yX7_settle yX7_settle, Cond.code yX7_settle cX7_settle 4 none, Cond.methodLink RL 38 yX8_count, Cond.instanceMethod yX8_count]
def wsL_law_r9 : List Cond := [Cond.selects RX8 yX8_count yX8_count, Cond.code yX8_count cX8_count 4 (some .int), Cond.methodLink RX8 190 yX7_countLost, Cond.instanceMethod yX7_countLost, Cond.selects RX7 yX7_countLost yX7_countLost, Cond.code yX7_countLost cX7_countLost 6 (some .int), Cond.methodLink RX8 194 yX1_measure, Cond.instanceMethod yX1_measure, Cond.selects RX1 yX1_measure yX1_measure, Cond.code yX1_measure cX1_measure 4 none, Cond.constant RX1 15 (100000), Cond.fieldLink RX1 22 "RayGround$Year" "size" "I", Cond.fieldLink RX1 28 "RayGround$Year" "kind" "[I", Cond.methodLink RX1 38 Lib.Math.min.name, Cond.static Lib.Math.min.name, Cond.initialized "java/lang/Math", Cond.code Lib.Math.min.name Lib.Math.min.code 2 (some .int), Cond.methodLink RX1 16 yJ7_fill_53178, Cond.methodLink RX1 31 yX7_square, Cond.instanceMethod yX7_square, Cond.selects RX7 yX7_square yX7_square, Cond.code yX7_square cX7_square 2 (some .int), Cond.methodLink RX1 35 yX7_height, Cond.instanceMethod yX7_height]
def wsL_law_r10 : List Cond := [Cond.selects RX7 yX7_height yX7_height, Cond.code yX7_height cX7_height 2 (some .int), Cond.methodLink RX8 198 yX1_countFilled, Cond.instanceMethod yX1_countFilled, Cond.selects RX1 yX1_countFilled yX1_countFilled, Cond.code yX1_countFilled cX1_countFilled 6 (some .int), Cond.methodLink RX8 201 yX7_countKind, Cond.instanceMethod yX7_countKind, Cond.selects RX7 yX7_countKind yX7_countKind, Cond.code yX7_countKind cX7_countKind 4 (some .int), Cond.methodLink RL 41 yX8_grow, Cond.instanceMethod yX8_grow, Cond.selects RX8 yX8_grow yX8_grow, Cond.code yX8_grow cX8_grow 5 (some .int), Cond.methodLink RX8 182 yX7_growGround, Cond.instanceMethod yX7_growGround, Cond.selects RX7 yX7_growGround yX7_growGround, Cond.code yX7_growGround cX7_growGround 6 (some .int), Cond.methodLink RX7 71 yX7_startFromSeeds, Cond.instanceMethod yX7_startFromSeeds, Cond.selects RX7 yX7_startFromSeeds yX7_startFromSeeds, Cond.code yX7_startFromSeeds cX7_startFromSeeds 3 none, Cond.methodLink RX7 80 yX7_lowestOf, Cond.instanceMethod yX7_lowestOf]
def wsL_law_r11 : List Cond := [Cond.selects RX7 yX7_lowestOf yX7_lowestOf, Cond.code yX7_lowestOf cX7_lowestOf 4 (some .int), Cond.methodLink RX7 68 yX7_height, Cond.methodLink RX7 74 yX7_spread, Cond.instanceMethod yX7_spread, Cond.selects RX7 yX7_spread yX7_spread, Cond.code yX7_spread cX7_spread 7 (some .boolean), Cond.methodLink RX7 83 yX7_isReached, Cond.instanceMethod yX7_isReached, Cond.selects RX7 yX7_isReached yX7_isReached, Cond.code yX7_isReached cX7_isReached 7 (some .boolean), Cond.methodLink RX7 87 yX7_isNear, Cond.instanceMethod yX7_isNear, Cond.selects RX7 yX7_isNear yX7_isNear, Cond.code yX7_isNear cX7_isNear 4 (some .boolean), Cond.methodLink RX7 94 yX7_squareOfWay, Cond.instanceMethod yX7_squareOfWay, Cond.selects RX7 yX7_squareOfWay yX7_squareOfWay, Cond.code yX7_squareOfWay cX7_squareOfWay 5 (some .int), Cond.methodLink RX7 91 yX7_isEven, Cond.instanceMethod yX7_isEven, Cond.selects RX7 yX7_isEven yX7_isEven, Cond.code yX7_isEven cX7_isEven 7 (some .boolean), Cond.methodLink RX7 77 yX7_countKind]
def wsL_law_r12 : List Cond := [Cond.methodLink RL 44 yX8_told, Cond.instanceMethod yX8_told, Cond.selects RX8 yX8_told yX8_told, Cond.code yX8_told cX8_told 5 (some .int), Cond.fieldLink RX8 125 "RayGround$Year" "x" "[I", Cond.fieldLink RX8 128 "RayGround$Year" "y" "[I", Cond.fieldLink RX8 135 "RayGround$Year" "strip" "[I", Cond.fieldLink RX8 138 "RayGround$Year" "kind" "[I", Cond.fieldLink RX8 141 "RayGround$Year" "byHand" "[I", Cond.fieldLink RX8 144 "RayGround$Year" "round" "[I", Cond.methodLink RX8 122 yX7_hasPoint, Cond.instanceMethod yX7_hasPoint, Cond.selects RX7 yX7_hasPoint yX7_hasPoint, Cond.code yX7_hasPoint cX7_hasPoint 2 (some .boolean), Cond.methodLink RX8 131 yX7_height, Cond.methodLink RL 47 yX8_grid, Cond.instanceMethod yX8_grid, Cond.selects RX8 yX8_grid yX8_grid, Cond.code yX8_grid cX8_grid 4 (some .int), Cond.methodLink RX8 204 yX8_isSquare, Cond.static yX8_isSquare, Cond.code yX8_isSquare cX8_isSquare 1 (some .boolean), Cond.methodLink RX8 207 yX1_at, Cond.instanceMethod yX1_at]
def wsL_law_r13 : List Cond := [Cond.selects RX1 yX1_at yX1_at, Cond.code yX1_at cX1_at 3 (some .int), Cond.methodLink RL 50 yX8_thirds, Cond.instanceMethod yX8_thirds, Cond.selects RX8 yX8_thirds yX8_thirds, Cond.code yX8_thirds cX8_thirds 2 (some .int), Cond.methodLink RX8 218 yX1_countThirds, Cond.instanceMethod yX1_countThirds, Cond.selects RX1 yX1_countThirds yX1_countThirds, Cond.code yX1_countThirds cX1_countThirds 4 (some .int), Cond.methodLink RX1 48 yX1_isQuad, Cond.instanceMethod yX1_isQuad, Cond.selects RX1 yX1_isQuad yX1_isQuad, Cond.code yX1_isQuad cX1_isQuad 3 (some .boolean), Cond.methodLink RX1 44 yX1_isFilled, Cond.instanceMethod yX1_isFilled, Cond.selects RX1 yX1_isFilled yX1_isFilled, Cond.code yX1_isFilled cX1_isFilled 3 (some .boolean), Cond.methodLink RL 54 yX8_volume, Cond.instanceMethod yX8_volume, Cond.selects RX8 yX8_volume yX8_volume, Cond.code yX8_volume cX8_volume 3 (some .long), Cond.methodLink RX8 211 yX8_isLevel, Cond.static yX8_isLevel]
def wsL_law_r14 : List Cond := [Cond.code yX8_isLevel cX8_isLevel 1 (some .boolean), Cond.methodLink RX8 214 yX1_volumeAbove, Cond.instanceMethod yX1_volumeAbove, Cond.selects RX1 yX1_volumeAbove yX1_volumeAbove, Cond.code yX1_volumeAbove cX1_volumeAbove 6 (some .long), Cond.constantLong RX1 54 (6), Cond.constantLong RX1 56 (8), Cond.methodLink RX1 51 yX1_sumOfBoth, Cond.instanceMethod yX1_sumOfBoth, Cond.selects RX1 yX1_sumOfBoth yX1_sumOfBoth, Cond.code yX1_sumOfBoth cX1_sumOfBoth 3 (some .int), Cond.methodLink RX1 58 yX1_at, Cond.methodLink RL 58 yX8_lines, Cond.instanceMethod yX8_lines, Cond.selects RX8 yX8_lines yX8_lines, Cond.code yX8_lines cX8_lines 4 (some .int), Cond.methodLink RX8 221 yX3_countLines, Cond.instanceMethod yX3_countLines, Cond.selects RX3 yX3_countLines yX3_countLines, Cond.code yX3_countLines cX3_countLines 7 (some .int), Cond.methodLink RX3 23 yX3_isCrossed, Cond.instanceMethod yX3_isCrossed, Cond.selects RX3 yX3_isCrossed yX3_isCrossed, Cond.code yX3_isCrossed cX3_isCrossed 5 (some .boolean)]
def wsL_law_r15 : List Cond := [Cond.methodLink RX3 42 yX3_column, Cond.instanceMethod yX3_column, Cond.selects RX3 yX3_column yX3_column, Cond.code yX3_column cX3_column 2 (some .int), Cond.methodLink RX3 46 yX3_row, Cond.instanceMethod yX3_row, Cond.selects RX3 yX3_row yX3_row, Cond.code yX3_row cX3_row 2 (some .int), Cond.methodLink RX3 49 yX1_isQuad, Cond.methodLink RX3 53 yX3_isAbove, Cond.instanceMethod yX3_isAbove, Cond.selects RX3 yX3_isAbove yX3_isAbove, Cond.code yX3_isAbove cX3_isAbove 7 (some .boolean), Cond.methodLink RX3 56 yX3_isUpper, Cond.instanceMethod yX3_isUpper, Cond.selects RX3 yX3_isUpper yX3_isUpper, Cond.code yX3_isUpper cX3_isUpper 2 (some .boolean), Cond.methodLink RX3 60 yX1_at, Cond.methodLink RX3 27 yX3_walkFrom, Cond.instanceMethod yX3_walkFrom, Cond.selects RX3 yX3_walkFrom yX3_walkFrom, Cond.code yX3_walkFrom cX3_walkFrom 8 (some .boolean), Cond.methodLink RX3 30 yX3_enqueue, Cond.instanceMethod yX3_enqueue]
def wsL_law_r16 : List Cond := [Cond.selects RX3 yX3_enqueue yX3_enqueue, Cond.code yX3_enqueue cX3_enqueue 2 none, Cond.methodLink RX3 34 yX3_isEdgeCrossed, Cond.instanceMethod yX3_isEdgeCrossed, Cond.selects RX3 yX3_isEdgeCrossed yX3_isEdgeCrossed, Cond.code yX3_isEdgeCrossed cX3_isEdgeCrossed 5 (some .boolean), Cond.methodLink RX3 38 yX3_beyond, Cond.instanceMethod yX3_beyond, Cond.selects RX3 yX3_beyond yX3_beyond, Cond.code yX3_beyond cX3_beyond 7 (some .int), Cond.methodLink RX3 64 yX3_thirdAt, Cond.instanceMethod yX3_thirdAt, Cond.selects RX3 yX3_thirdAt yX3_thirdAt, Cond.code yX3_thirdAt cX3_thirdAt 5 (some .int), Cond.methodLink RL 62 yX8_changed, Cond.instanceMethod yX8_changed, Cond.selects RX8 yX8_changed yX8_changed, Cond.code yX8_changed cX8_changed 3 (some .int), Cond.constant RX8 225 (-1000001), Cond.methodLink RX8 226 yX1_countBoth, Cond.instanceMethod yX1_countBoth, Cond.selects RX1 yX1_countBoth yX1_countBoth, Cond.code yX1_countBoth cX1_countBoth 4 (some .int), Cond.methodLink RX1 61 yX1_bothFilled]
def wsL_law_r17 : List Cond := [Cond.instanceMethod yX1_bothFilled, Cond.selects RX1 yX1_bothFilled yX1_bothFilled, Cond.code yX1_bothFilled cX1_bothFilled 3 (some .boolean), Cond.methodLink RX8 230 yX1_countRisen, Cond.instanceMethod yX1_countRisen, Cond.selects RX1 yX1_countRisen yX1_countRisen, Cond.code yX1_countRisen cX1_countRisen 6 (some .int), Cond.methodLink RX8 234 yX1_sumOfRises, Cond.instanceMethod yX1_sumOfRises, Cond.selects RX1 yX1_sumOfRises yX1_sumOfRises, Cond.code yX1_sumOfRises cX1_sumOfRises 4 (some .int)]
def wsL_law : List Cond := (wsL_law_r1 ++ (wsL_law_r2 ++ (wsL_law_r3 ++ (wsL_law_r4 ++ (wsL_law_r5 ++ (wsL_law_r6 ++ (wsL_law_r7 ++ (wsL_law_r8 ++ (wsL_law_r9 ++ (wsL_law_r10 ++ (wsL_law_r11 ++ (wsL_law_r12 ++ (wsL_law_r13 ++ (wsL_law_r14 ++ (wsL_law_r15 ++ (wsL_law_r16 ++ wsL_law_r17)))))))))))))))) ++ wsX80 ++ wsX60 ++ wsX20 ++ wsX00 ++ wsX40 ++ wsX30 ++ wsX10 ++ wsX50 ++ wsX70 ++ ([] : List Cond)
abbrev vwCl : List vw_C := [(RX0, TX0, 4), (RX1, TX1, 1), (RX2, TX2, 9), (RX3, TX3, 3), (RX4, TX4, 13), (RX5, TX5, 3), (RX6, TX6, 2), (RX7, TX7, 10), (RX8, TX8, 9)]
