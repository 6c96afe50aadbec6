/-! ===== BEGIN words of one list among another's, by their places ===== -/
theorem goodIn_r {big : List Cond} (ws : List Cond) (ps : List Nat) (hp : ws = ps.filterMap (fun i => big[i]?)) (h : ws.all goodWord = true) : GoodIn big ws := by
  intro w hw
  have h1 := List.all_eq_true.mp h w hw
  rw [hp] at hw
  obtain ⟨i, -, hi⟩ := List.mem_filterMap.mp hw
  have hm : w ∈ big := by first | exact List.mem_of_getElem? hi | exact List.getElem?_mem hi
  exact ⟨hm, good_of_word h1⟩
theorem goodIn_app {big a b : List Cond} (ha : GoodIn big a) (hb : GoodIn big b) : GoodIn big (a ++ b) := fun w h => (List.mem_append.mp h).elim (ha w) (hb w)
theorem goodIn_ca {big a b : List Cond} {c : Cond} (ha : GoodIn big (c :: a)) (hb : GoodIn big b) : GoodIn big (c :: (a ++ b)) := fun w h => (List.mem_cons.mp h).elim (fun e => ha w (List.mem_cons.mpr (Or.inl e))) (fun h => (List.mem_append.mp h).elim (fun h => ha w (List.mem_cons.mpr (Or.inr h))) (hb w))
theorem goodIn_sub {big ws : List Cond} (hm : ∀ w ∈ ws, w ∈ big) (h : ws.all goodWord = true) : GoodIn big ws := fun w hw => ⟨hm w hw, good_of_word (List.all_eq_true.mp h w hw)⟩
/-! ===== END ===== -/

/-! ===== BEGIN printed: names, fields, word lists, decode rows ===== -/
def RX0 : String := "AgainAgain$Game"
def TX0 : u_T := fun k => match k with
  | 0 => ("AgainAgain$Game", "gains", "[I", true)
  | 1 => ("AgainAgain$Game", "over", "J", false)
  | _ => ("AgainAgain$Game", "under", "J", false)
def tyX0 : Nat → FieldType := fun k => match k with
  | 0 => .array .int
  | 1 => .long
  | _ => .long
abbrev wsX00 : List Cond := u_ws RX0 TX0 3
theorem nmX0 : ∀ a, a < 3 → ∀ b, b < 3 → a ≠ b → (TX0 a).2.1 ≠ (TX0 b).2.1 := by decide +kernel
theorem tyX0_ok : ∀ k, k < 3 → parseFieldDescriptor (TX0 k).2.2.1 = some (tyX0 k) := by decide +kernel
abbrev cX0_init : ByteArray := prog_2_method_1_code
def yX0_init : MethodName := ⟨RX0, "<init>", "()V"⟩
abbrev cX0_setGain : ByteArray := prog_2_method_2_code
def yX0_setGain : MethodName := ⟨RX0, "setGain", "(III)V"⟩
abbrev cX0_gain : ByteArray := prog_2_method_3_code
def yX0_gain : MethodName := ⟨RX0, "gain", "(II)I"⟩
abbrev cX0_setRate : ByteArray := prog_2_method_4_code
def yX0_setRate : MethodName := ⟨RX0, "setRate", "(II)V"⟩
abbrev cX0_rateOver : ByteArray := prog_2_method_5_code
def yX0_rateOver : MethodName := ⟨RX0, "rateOver", "()J"⟩
abbrev cX0_rateUnder : ByteArray := prog_2_method_6_code
def yX0_rateUnder : MethodName := ⟨RX0, "rateUnder", "()J"⟩
def RX1 : String := "AgainAgain$Likeness"
def TX1 : u_T := fun k => match k with
  | _ => ("AgainAgain$Likeness", "pairs", "[I", true)
def tyX1 : Nat → FieldType := fun k => match k with
  | _ => .array .int
abbrev wsX10 : List Cond := u_ws RX1 TX1 1
theorem nmX1 : ∀ a, a < 1 → ∀ b, b < 1 → a ≠ b → (TX1 a).2.1 ≠ (TX1 b).2.1 := by decide +kernel
theorem tyX1_ok : ∀ k, k < 1 → parseFieldDescriptor (TX1 k).2.2.1 = some (tyX1 k) := by decide +kernel
abbrev cX1_init : ByteArray := prog_3_method_1_code
def yX1_init : MethodName := ⟨RX1, "<init>", "()V"⟩
abbrev cX1_areLike : ByteArray := prog_3_method_2_code
def yX1_areLike : MethodName := ⟨RX1, "areLike", "(LAgainAgain$Machines;II)Z"⟩
abbrev cX1_unlikeMachines : ByteArray := prog_3_method_3_code
def yX1_unlikeMachines : MethodName := ⟨RX1, "unlikeMachines", "(LAgainAgain$Machines;)I"⟩
abbrev cX1_isNew : ByteArray := prog_3_method_4_code
def yX1_isNew : MethodName := ⟨RX1, "isNew", "(LAgainAgain$Machines;I)Z"⟩
abbrev cX1_unlikeStates : ByteArray := prog_3_method_5_code
def yX1_unlikeStates : MethodName := ⟨RX1, "unlikeStates", "(LAgainAgain$Machines;I)I"⟩
abbrev cX1_isNewState : ByteArray := prog_3_method_6_code
def yX1_isNewState : MethodName := ⟨RX1, "isNewState", "(LAgainAgain$Machines;III)Z"⟩
abbrev cX1_holds : ByteArray := prog_3_method_7_code
def yX1_holds : MethodName := ⟨RX1, "holds", "(II)Z"⟩
abbrev cX1_reachedStates : ByteArray := prog_3_method_8_code
def yX1_reachedStates : MethodName := ⟨RX1, "reachedStates", "(LAgainAgain$Machines;I)I"⟩
abbrev cX1_statesLike : ByteArray := prog_3_method_9_code
def yX1_statesLike : MethodName := ⟨RX1, "statesLike", "(LAgainAgain$Machines;IIII)Z"⟩
def RX2 : String := "AgainAgain$Machines"
def TX2 : u_T := fun k => match k with
  | 0 => ("AgainAgain$Machines", "sizes", "[I", true)
  | 1 => ("AgainAgain$Machines", "actions", "[I", true)
  | 2 => ("AgainAgain$Machines", "nexts", "[I", true)
  | _ => ("AgainAgain$Machines", "many", "I", false)
def tyX2 : Nat → FieldType := fun k => match k with
  | 0 => .array .int
  | 1 => .array .int
  | 2 => .array .int
  | _ => .int
abbrev wsX20 : List Cond := u_ws RX2 TX2 4
theorem nmX2 : ∀ a, a < 4 → ∀ b, b < 4 → a ≠ b → (TX2 a).2.1 ≠ (TX2 b).2.1 := by decide +kernel
theorem tyX2_ok : ∀ k, k < 4 → parseFieldDescriptor (TX2 k).2.2.1 = some (tyX2 k) := by decide +kernel
abbrev cX2_init : ByteArray := prog_4_method_1_code
def yX2_init : MethodName := ⟨RX2, "<init>", "()V"⟩
abbrev cX2_many : ByteArray := prog_4_method_2_code
def yX2_many : MethodName := ⟨RX2, "many", "()I"⟩
abbrev cX2_isFull : ByteArray := prog_4_method_3_code
def yX2_isFull : MethodName := ⟨RX2, "isFull", "()Z"⟩
abbrev cX2_has : ByteArray := prog_4_method_4_code
def yX2_has : MethodName := ⟨RX2, "has", "(I)Z"⟩
abbrev cX2_hasState : ByteArray := prog_4_method_5_code
def yX2_hasState : MethodName := ⟨RX2, "hasState", "(II)Z"⟩
abbrev cX2_statesOf : ByteArray := prog_4_method_6_code
def yX2_statesOf : MethodName := ⟨RX2, "statesOf", "(I)I"⟩
abbrev cX2_add : ByteArray := prog_4_method_7_code
def yX2_add : MethodName := ⟨RX2, "add", "(I)I"⟩
abbrev cX2_removeLatest : ByteArray := prog_4_method_8_code
def yX2_removeLatest : MethodName := ⟨RX2, "removeLatest", "()I"⟩
abbrev cX2_setAction : ByteArray := prog_4_method_9_code
def yX2_setAction : MethodName := ⟨RX2, "setAction", "(III)V"⟩
abbrev cX2_actionOf : ByteArray := prog_4_method_10_code
def yX2_actionOf : MethodName := ⟨RX2, "actionOf", "(II)I"⟩
abbrev cX2_setNext : ByteArray := prog_4_method_11_code
def yX2_setNext : MethodName := ⟨RX2, "setNext", "(IIII)V"⟩
abbrev cX2_nextOf : ByteArray := prog_4_method_12_code
def yX2_nextOf : MethodName := ⟨RX2, "nextOf", "(III)I"⟩
def RX3 : String := "AgainAgain$Plans"
def TX3 : u_T := fun k => match k with
  | 0 => ("AgainAgain$Plans", "plans", "[I", true)
  | 1 => ("AgainAgain$Plans", "tops", "[J", true)
  | 2 => ("AgainAgain$Plans", "bottoms", "[J", true)
  | 3 => ("AgainAgain$Plans", "walk", "LAgainAgain$Walk;", true)
  | _ => ("AgainAgain$Plans", "tried", "LAgainAgain$Ratio;", true)
def tyX3 : Nat → FieldType := fun k => match k with
  | 0 => .array .int
  | 1 => .array .long
  | 2 => .array .long
  | 3 => .object "AgainAgain$Walk"
  | _ => .object "AgainAgain$Ratio"
abbrev wsX30 : List Cond := u_ws RX3 TX3 5
theorem nmX3 : ∀ a, a < 5 → ∀ b, b < 5 → a ≠ b → (TX3 a).2.1 ≠ (TX3 b).2.1 := by decide +kernel
theorem tyX3_ok : ∀ k, k < 5 → parseFieldDescriptor (TX3 k).2.2.1 = some (tyX3 k) := by decide +kernel
abbrev cX3_init : ByteArray := prog_5_method_1_code
def yX3_init : MethodName := ⟨RX3, "<init>", "()V"⟩
abbrev cX3_plansAgainst : ByteArray := prog_5_method_2_code
def yX3_plansAgainst : MethodName := ⟨RX3, "plansAgainst", "(I)I"⟩
abbrev cX3_slotOf : ByteArray := prog_5_method_3_code
def yX3_slotOf : MethodName := ⟨RX3, "slotOf", "(II)I"⟩
abbrev cX3_weigh : ByteArray := prog_5_method_4_code
def yX3_weigh : MethodName := ⟨RX3, "weigh", "(LAgainAgain$Game;LAgainAgain$Machines;IIILAgainAgain$Ratio;)V"⟩
abbrev cX3_learn : ByteArray := prog_5_method_5_code
def yX3_learn : MethodName := ⟨RX3, "learn", "(LAgainAgain$Game;LAgainAgain$Machines;II)V"⟩
abbrev cX3_keep : ByteArray := prog_5_method_6_code
def yX3_keep : MethodName := ⟨RX3, "keep", "(II)V"⟩
abbrev cX3_learnAll : ByteArray := prog_5_method_7_code
def yX3_learnAll : MethodName := ⟨RX3, "learnAll", "(LAgainAgain$Game;LAgainAgain$Machines;I)V"⟩
abbrev cX3_bestPlan : ByteArray := prog_5_method_8_code
def yX3_bestPlan : MethodName := ⟨RX3, "bestPlan", "(II)I"⟩
abbrev cX3_bestPart : ByteArray := prog_5_method_9_code
def yX3_bestPart : MethodName := ⟨RX3, "bestPart", "(III)J"⟩
abbrev cX3_bestCompared : ByteArray := prog_5_method_10_code
def yX3_bestCompared : MethodName := ⟨RX3, "bestCompared", "(IILAgainAgain$Ratio;)I"⟩
def RX4 : String := "AgainAgain$Ratio"
def TX4 : u_T := fun k => match k with
  | 0 => ("AgainAgain$Ratio", "top", "J", false)
  | _ => ("AgainAgain$Ratio", "bottom", "J", false)
def tyX4 : Nat → FieldType := fun k => match k with
  | 0 => .long
  | _ => .long
abbrev wsX40 : List Cond := u_ws RX4 TX4 2
theorem nmX4 : ∀ a, a < 2 → ∀ b, b < 2 → a ≠ b → (TX4 a).2.1 ≠ (TX4 b).2.1 := by decide +kernel
theorem tyX4_ok : ∀ k, k < 2 → parseFieldDescriptor (TX4 k).2.2.1 = some (tyX4 k) := by decide +kernel
abbrev cX4_init : ByteArray := prog_6_method_1_code
def yX4_init : MethodName := ⟨RX4, "<init>", "()V"⟩
abbrev cX4_become : ByteArray := prog_6_method_2_code
def yX4_become : MethodName := ⟨RX4, "become", "(JJ)V"⟩
abbrev cX4_part : ByteArray := prog_6_method_3_code
def yX4_part : MethodName := ⟨RX4, "part", "(I)J"⟩
abbrev cX4_compareWith : ByteArray := prog_6_method_4_code
def yX4_compareWith : MethodName := ⟨RX4, "compareWith", "(JJ)I"⟩
abbrev cX4_greatestShared : ByteArray := prog_6_method_5_code
def yX4_greatestShared : MethodName := ⟨RX4, "greatestShared", "(JJ)J"⟩
def RX5 : String := "AgainAgain$Sheets"
def TX5 : u_T := fun k => match k with
  | 0 => ("AgainAgain$Sheets", "lanes", "[I", true)
  | 1 => ("AgainAgain$Sheets", "sizes", "[I", true)
  | _ => ("AgainAgain$Sheets", "cells", "[I", true)
def tyX5 : Nat → FieldType := fun k => match k with
  | 0 => .array .int
  | 1 => .array .int
  | _ => .array .int
abbrev wsX50 : List Cond := u_ws RX5 TX5 3
theorem nmX5 : ∀ a, a < 3 → ∀ b, b < 3 → a ≠ b → (TX5 a).2.1 ≠ (TX5 b).2.1 := by decide +kernel
theorem tyX5_ok : ∀ k, k < 3 → parseFieldDescriptor (TX5 k).2.2.1 = some (tyX5 k) := by decide +kernel
abbrev cX5_init : ByteArray := prog_7_method_1_code
def yX5_init : MethodName := ⟨RX5, "<init>", "()V"⟩
abbrev cX5_isSheet : ByteArray := prog_7_method_2_code
def yX5_isSheet : MethodName := ⟨RX5, "isSheet", "(I)Z"⟩
abbrev cX5_isLane : ByteArray := prog_7_method_3_code
def yX5_isLane : MethodName := ⟨RX5, "isLane", "(I)Z"⟩
abbrev cX5_isThere : ByteArray := prog_7_method_4_code
def yX5_isThere : MethodName := ⟨RX5, "isThere", "(I)Z"⟩
abbrev cX5_laneOf : ByteArray := prog_7_method_5_code
def yX5_laneOf : MethodName := ⟨RX5, "laneOf", "(I)I"⟩
abbrev cX5_cellsOf : ByteArray := prog_7_method_6_code
def yX5_cellsOf : MethodName := ⟨RX5, "cellsOf", "(I)I"⟩
abbrev cX5_layOut : ByteArray := prog_7_method_7_code
def yX5_layOut : MethodName := ⟨RX5, "layOut", "(III)V"⟩
abbrev cX5_hasCell : ByteArray := prog_7_method_8_code
def yX5_hasCell : MethodName := ⟨RX5, "hasCell", "(II)Z"⟩
abbrev cX5_cell : ByteArray := prog_7_method_9_code
def yX5_cell : MethodName := ⟨RX5, "cell", "(II)I"⟩
abbrev cX5_setCell : ByteArray := prog_7_method_10_code
def yX5_setCell : MethodName := ⟨RX5, "setCell", "(III)V"⟩
abbrev cX5_lowestBits : ByteArray := prog_7_method_11_code
def yX5_lowestBits : MethodName := ⟨RX5, "lowestBits", "(II)I"⟩
def RX6 : String := "AgainAgain$Walk"
def TX6 : u_T := fun k => match k with
  | 0 => ("AgainAgain$Walk", "nexts", "[I", true)
  | 1 => ("AgainAgain$Walk", "gains", "[I", true)
  | 2 => ("AgainAgain$Walk", "firstMet", "[I", true)
  | 3 => ("AgainAgain$Walk", "path", "[I", true)
  | 4 => ("AgainAgain$Walk", "tail", "I", false)
  | _ => ("AgainAgain$Walk", "ring", "I", false)
def tyX6 : Nat → FieldType := fun k => match k with
  | 0 => .array .int
  | 1 => .array .int
  | 2 => .array .int
  | 3 => .array .int
  | 4 => .int
  | _ => .int
abbrev wsX60 : List Cond := u_ws RX6 TX6 6
theorem nmX6 : ∀ a, a < 6 → ∀ b, b < 6 → a ≠ b → (TX6 a).2.1 ≠ (TX6 b).2.1 := by decide +kernel
theorem tyX6_ok : ∀ k, k < 6 → parseFieldDescriptor (TX6 k).2.2.1 = some (tyX6 k) := by decide +kernel
abbrev cX6_init : ByteArray := prog_8_method_1_code
def yX6_init : MethodName := ⟨RX6, "<init>", "()V"⟩
abbrev cX6_placeOf : ByteArray := prog_8_method_2_code
def yX6_placeOf : MethodName := ⟨RX6, "placeOf", "(II)I"⟩
abbrev cX6_mine : ByteArray := prog_8_method_3_code
def yX6_mine : MethodName := ⟨RX6, "mine", "(I)I"⟩
abbrev cX6_theirs : ByteArray := prog_8_method_4_code
def yX6_theirs : MethodName := ⟨RX6, "theirs", "(I)I"⟩
abbrev cX6_takeMatch : ByteArray := prog_8_method_5_code
def yX6_takeMatch : MethodName := ⟨RX6, "takeMatch", "(LAgainAgain$Game;LAgainAgain$Machines;II)V"⟩
abbrev cX6_takePlan : ByteArray := prog_8_method_6_code
def yX6_takePlan : MethodName := ⟨RX6, "takePlan", "(LAgainAgain$Game;LAgainAgain$Machines;II)V"⟩
abbrev cX6_startAt : ByteArray := prog_8_method_7_code
def yX6_startAt : MethodName := ⟨RX6, "startAt", "(I)V"⟩
abbrev cX6_tail : ByteArray := prog_8_method_8_code
def yX6_tail : MethodName := ⟨RX6, "tail", "()I"⟩
abbrev cX6_ring : ByteArray := prog_8_method_9_code
def yX6_ring : MethodName := ⟨RX6, "ring", "()I"⟩
abbrev cX6_placeIn : ByteArray := prog_8_method_10_code
def yX6_placeIn : MethodName := ⟨RX6, "placeIn", "(I)I"⟩
abbrev cX6_tailGains : ByteArray := prog_8_method_11_code
def yX6_tailGains : MethodName := ⟨RX6, "tailGains", "()I"⟩
abbrev cX6_ringGains : ByteArray := prog_8_method_12_code
def yX6_ringGains : MethodName := ⟨RX6, "ringGains", "()I"⟩
abbrev cX6_gainsOfFirst : ByteArray := prog_8_method_13_code
def yX6_gainsOfFirst : MethodName := ⟨RX6, "gainsOfFirst", "(I)I"⟩
abbrev cX6_gainsAlong : ByteArray := prog_8_method_14_code
def yX6_gainsAlong : MethodName := ⟨RX6, "gainsAlong", "(II)I"⟩
abbrev cX6_worthInto : ByteArray := prog_8_method_15_code
def yX6_worthInto : MethodName := ⟨RX6, "worthInto", "(LAgainAgain$Game;LAgainAgain$Ratio;)V"⟩
abbrev cX6_weighedAlong : ByteArray := prog_8_method_16_code
def yX6_weighedAlong : MethodName := ⟨RX6, "weighedAlong", "(IIJJ)J"⟩
abbrev cX6_power : ByteArray := prog_8_method_17_code
def yX6_power : MethodName := ⟨RX6, "power", "(JI)J"⟩
abbrev cX6_meeting : ByteArray := prog_8_method_18_code
def yX6_meeting : MethodName := ⟨RX6, "meeting", "(II)I"⟩
def RX7 : String := "AgainAgain"
def TX7 : u_T := fun k => match k with
  | 0 => ("AgainAgain", "game", "LAgainAgain$Game;", true)
  | 1 => ("AgainAgain", "machines", "LAgainAgain$Machines;", true)
  | 2 => ("AgainAgain", "sheets", "LAgainAgain$Sheets;", true)
  | 3 => ("AgainAgain", "likeness", "LAgainAgain$Likeness;", true)
  | 4 => ("AgainAgain", "plans", "LAgainAgain$Plans;", true)
  | 5 => ("AgainAgain", "walk", "LAgainAgain$Walk;", true)
  | 6 => ("AgainAgain", "back", "LAgainAgain$Walk;", true)
  | 7 => ("AgainAgain", "ratio", "LAgainAgain$Ratio;", true)
  | 8 => ("AgainAgain", "other", "LAgainAgain$Ratio;", true)
  | _ => ("AgainAgain", "scores", "[I", true)
def tyX7 : Nat → FieldType := fun k => match k with
  | 0 => .object "AgainAgain$Game"
  | 1 => .object "AgainAgain$Machines"
  | 2 => .object "AgainAgain$Sheets"
  | 3 => .object "AgainAgain$Likeness"
  | 4 => .object "AgainAgain$Plans"
  | 5 => .object "AgainAgain$Walk"
  | 6 => .object "AgainAgain$Walk"
  | 7 => .object "AgainAgain$Ratio"
  | 8 => .object "AgainAgain$Ratio"
  | _ => .array .int
abbrev wsX70 : List Cond := u_ws RX7 TX7 10
theorem nmX7 : ∀ a, a < 10 → ∀ b, b < 10 → a ≠ b → (TX7 a).2.1 ≠ (TX7 b).2.1 := by decide +kernel
theorem tyX7_ok : ∀ k, k < 10 → parseFieldDescriptor (TX7 k).2.2.1 = some (tyX7 k) := by decide +kernel
abbrev cX7_init : ByteArray := prog_1_method_1_code
def yX7_init : MethodName := ⟨RX7, "<init>", "()V"⟩
abbrev cX7_pay : ByteArray := prog_1_method_2_code
def yX7_pay : MethodName := ⟨RX7, "pay", "(III)I"⟩
abbrev cX7_discount : ByteArray := prog_1_method_3_code
def yX7_discount : MethodName := ⟨RX7, "discount", "(II)I"⟩
abbrev cX7_machine : ByteArray := prog_1_method_4_code
def yX7_machine : MethodName := ⟨RX7, "machine", "(I)I"⟩
abbrev cX7_does : ByteArray := prog_1_method_5_code
def yX7_does : MethodName := ⟨RX7, "does", "(III)I"⟩
abbrev cX7_goes : ByteArray := prog_1_method_6_code
def yX7_goes : MethodName := ⟨RX7, "goes", "(IIII)I"⟩
abbrev cX7_told : ByteArray := prog_1_method_7_code
def yX7_told : MethodName := ⟨RX7, "told", "(III)I"⟩
abbrev cX7_drop : ByteArray := prog_1_method_8_code
def yX7_drop : MethodName := ⟨RX7, "drop", "()I"⟩
abbrev cX7_sheet : ByteArray := prog_1_method_9_code
def yX7_sheet : MethodName := ⟨RX7, "sheet", "(III)I"⟩
abbrev cX7_lay : ByteArray := prog_1_method_10_code
def yX7_lay : MethodName := ⟨RX7, "lay", "(III)I"⟩
abbrev cX7_draw : ByteArray := prog_1_method_11_code
def yX7_draw : MethodName := ⟨RX7, "draw", "(IIII)I"⟩
abbrev cX7_action : ByteArray := prog_1_method_12_code
def yX7_action : MethodName := ⟨RX7, "action", "(III)I"⟩
abbrev cX7_match : ByteArray := prog_1_method_13_code
def yX7_match : MethodName := ⟨RX7, "match", "(III)I"⟩
abbrev cX7_sum : ByteArray := prog_1_method_14_code
def yX7_sum : MethodName := ⟨RX7, "sum", "(III)I"⟩
abbrev cX7_mean : ByteArray := prog_1_method_15_code
def yX7_mean : MethodName := ⟨RX7, "mean", "(III)J"⟩
abbrev cX7_worth : ByteArray := prog_1_method_16_code
def yX7_worth : MethodName := ⟨RX7, "worth", "(III)J"⟩
abbrev cX7_slip : ByteArray := prog_1_method_17_code
def yX7_slip : MethodName := ⟨RX7, "slip", "(III)I"⟩
abbrev cX7_like : ByteArray := prog_1_method_18_code
def yX7_like : MethodName := ⟨RX7, "like", "(II)I"⟩
abbrev cX7_smallest : ByteArray := prog_1_method_19_code
def yX7_smallest : MethodName := ⟨RX7, "smallest", "(I)I"⟩
abbrev cX7_best : ByteArray := prog_1_method_20_code
def yX7_best : MethodName := ⟨RX7, "best", "(II)I"⟩
abbrev cX7_bestWorth : ByteArray := prog_1_method_21_code
def yX7_bestWorth : MethodName := ⟨RX7, "bestWorth", "(III)J"⟩
abbrev cX7_planWorth : ByteArray := prog_1_method_22_code
def yX7_planWorth : MethodName := ⟨RX7, "planWorth", "(IIII)J"⟩
abbrev cX7_rest : ByteArray := prog_1_method_23_code
def yX7_rest : MethodName := ⟨RX7, "rest", "(II)I"⟩
abbrev cX7_everywhere : ByteArray := prog_1_method_24_code
def yX7_everywhere : MethodName := ⟨RX7, "everywhere", "(II)I"⟩
abbrev cX7_deviation : ByteArray := prog_1_method_25_code
def yX7_deviation : MethodName := ⟨RX7, "deviation", "(III)I"⟩
abbrev cX7_resists : ByteArray := prog_1_method_26_code
def yX7_resists : MethodName := ⟨RX7, "resists", "(II)I"⟩
abbrev cX7_invaders : ByteArray := prog_1_method_27_code
def yX7_invaders : MethodName := ⟨RX7, "invaders", "(I)I"⟩
abbrev cX7_score : ByteArray := prog_1_method_28_code
def yX7_score : MethodName := ⟨RX7, "score", "(II)I"⟩
abbrev cX7_place : ByteArray := prog_1_method_29_code
def yX7_place : MethodName := ⟨RX7, "place", "(II)I"⟩
abbrev cX7_count : ByteArray := prog_1_method_30_code
def yX7_count : MethodName := ⟨RX7, "count", "(I)I"⟩
abbrev cX7_within : ByteArray := prog_1_method_31_code
def yX7_within : MethodName := ⟨RX7, "within", "(III)Z"⟩
abbrev cX7_isAction : ByteArray := prog_1_method_32_code
def yX7_isAction : MethodName := ⟨RX7, "isAction", "(I)Z"⟩
abbrev cX7_oneIf : ByteArray := prog_1_method_33_code
def yX7_oneIf : MethodName := ⟨RX7, "oneIf", "(Z)I"⟩
abbrev cX7_areMachines : ByteArray := prog_1_method_34_code
def yX7_areMachines : MethodName := ⟨RX7, "areMachines", "(II)Z"⟩
abbrev cX7_cellFault : ByteArray := prog_1_method_35_code
def yX7_cellFault : MethodName := ⟨RX7, "cellFault", "(III)I"⟩
abbrev cX7_readMachine : ByteArray := prog_1_method_36_code
def yX7_readMachine : MethodName := ⟨RX7, "readMachine", "(III)I"⟩
abbrev cX7_playOut : ByteArray := prog_1_method_37_code
def yX7_playOut : MethodName := ⟨RX7, "playOut", "(II)V"⟩
abbrev cX7_gainsOf : ByteArray := prog_1_method_38_code
def yX7_gainsOf : MethodName := ⟨RX7, "gainsOf", "(III)I"⟩
abbrev cX7_matchWorth : ByteArray := prog_1_method_39_code
def yX7_matchWorth : MethodName := ⟨RX7, "matchWorth", "(IILAgainAgain$Ratio;)V"⟩
abbrev cX7_placeBehindSlip : ByteArray := prog_1_method_40_code
def yX7_placeBehindSlip : MethodName := ⟨RX7, "placeBehindSlip", "(III)I"⟩
abbrev cX7_takeBothSides : ByteArray := prog_1_method_41_code
def yX7_takeBothSides : MethodName := ⟨RX7, "takeBothSides", "(II)V"⟩
abbrev cX7_gainsByPlan : ByteArray := prog_1_method_42_code
def yX7_gainsByPlan : MethodName := ⟨RX7, "gainsByPlan", "(LAgainAgain$Walk;III)Z"⟩
abbrev cX7_restFrom : ByteArray := prog_1_method_43_code
def yX7_restFrom : MethodName := ⟨RX7, "restFrom", "(IIII)Z"⟩
abbrev cX7_deviationFrom : ByteArray := prog_1_method_44_code
def yX7_deviationFrom : MethodName := ⟨RX7, "deviationFrom", "(IIIII)I"⟩
abbrev cX7_firstUnrest : ByteArray := prog_1_method_45_code
def yX7_firstUnrest : MethodName := ⟨RX7, "firstUnrest", "(II)I"⟩
abbrev cX7_compareWorths : ByteArray := prog_1_method_46_code
def yX7_compareWorths : MethodName := ⟨RX7, "compareWorths", "(IIII)I"⟩
abbrev cX7_withstands : ByteArray := prog_1_method_47_code
def yX7_withstands : MethodName := ⟨RX7, "withstands", "(II)Z"⟩
abbrev cX7_gainsAgainstAll : ByteArray := prog_1_method_48_code
def yX7_gainsAgainstAll : MethodName := ⟨RX7, "gainsAgainstAll", "(II)I"⟩
abbrev cX7_machinesAheadOf : ByteArray := prog_1_method_49_code
def yX7_machinesAheadOf : MethodName := ⟨RX7, "machinesAheadOf", "(I)I"⟩
abbrev cX7_restingPairs : ByteArray := prog_1_method_50_code
def yX7_restingPairs : MethodName := ⟨RX7, "restingPairs", "()I"⟩
def RX8 : String := "AgainAgainModel"
def TX8 : u_T := fun k => match k with
  | 0 => ("AgainAgainModel", "pays", "[I", true)
  | 1 => ("AgainAgainModel", "up", "I", false)
  | 2 => ("AgainAgainModel", "by", "I", false)
  | 3 => ("AgainAgainModel", "machines", "I", false)
  | 4 => ("AgainAgainModel", "many", "[I", true)
  | 5 => ("AgainAgainModel", "acts", "[I", true)
  | 6 => ("AgainAgainModel", "nexts", "[I", true)
  | 7 => ("AgainAgainModel", "lanes", "[I", true)
  | 8 => ("AgainAgainModel", "sizes", "[I", true)
  | 9 => ("AgainAgainModel", "cells", "[I", true)
  | 10 => ("AgainAgainModel", "row", "[I", true)
  | 11 => ("AgainAgainModel", "seenAt", "[I", true)
  | 12 => ("AgainAgainModel", "tail", "I", false)
  | 13 => ("AgainAgainModel", "ring", "I", false)
  | 14 => ("AgainAgainModel", "over", "J", false)
  | 15 => ("AgainAgainModel", "under", "J", false)
  | 16 => ("AgainAgainModel", "unlike", "[Z", true)
  | 17 => ("AgainAgainModel", "bestPlan", "I", false)
  | 18 => ("AgainAgainModel", "bestOver", "J", false)
  | 19 => ("AgainAgainModel", "bestUnder", "J", false)
  | _ => ("AgainAgainModel", "scores", "[I", true)
def tyX8 : Nat → FieldType := fun k => match k with
  | 0 => .array .int
  | 1 => .int
  | 2 => .int
  | 3 => .int
  | 4 => .array .int
  | 5 => .array .int
  | 6 => .array .int
  | 7 => .array .int
  | 8 => .array .int
  | 9 => .array .int
  | 10 => .array .int
  | 11 => .array .int
  | 12 => .int
  | 13 => .int
  | 14 => .long
  | 15 => .long
  | 16 => .array .boolean
  | 17 => .int
  | 18 => .long
  | 19 => .long
  | _ => .array .int
abbrev wsX80 : List Cond := u_ws RX8 TX8 21
theorem nmX8 : ∀ a, a < 21 → ∀ b, b < 21 → a ≠ b → (TX8 a).2.1 ≠ (TX8 b).2.1 := by decide +kernel
theorem tyX8_ok : ∀ k, k < 21 → parseFieldDescriptor (TX8 k).2.2.1 = some (tyX8 k) := by decide +kernel
abbrev cX8_init : ByteArray := prog_10_method_1_code
def yX8_init : MethodName := ⟨RX8, "<init>", "()V"⟩
abbrev cX8_in : ByteArray := prog_10_method_3_code
def yX8_in : MethodName := ⟨RX8, "in", "(JJJ)Z"⟩
abbrev cX8_pay : ByteArray := prog_10_method_4_code
def yX8_pay : MethodName := ⟨RX8, "pay", "(III)I"⟩
abbrev cX8_discount : ByteArray := prog_10_method_5_code
def yX8_discount : MethodName := ⟨RX8, "discount", "(II)I"⟩
abbrev cX8_isMachine : ByteArray := prog_10_method_6_code
def yX8_isMachine : MethodName := ⟨RX8, "isMachine", "(I)Z"⟩
abbrev cX8_isState : ByteArray := prog_10_method_7_code
def yX8_isState : MethodName := ⟨RX8, "isState", "(II)Z"⟩
abbrev cX8_machine : ByteArray := prog_10_method_8_code
def yX8_machine : MethodName := ⟨RX8, "machine", "(I)I"⟩
abbrev cX8_does : ByteArray := prog_10_method_9_code
def yX8_does : MethodName := ⟨RX8, "does", "(III)I"⟩
abbrev cX8_goes : ByteArray := prog_10_method_10_code
def yX8_goes : MethodName := ⟨RX8, "goes", "(IIII)I"⟩
abbrev cX8_told : ByteArray := prog_10_method_11_code
def yX8_told : MethodName := ⟨RX8, "told", "(III)I"⟩
abbrev cX8_drop : ByteArray := prog_10_method_12_code
def yX8_drop : MethodName := ⟨RX8, "drop", "()I"⟩
abbrev cX8_isSheet : ByteArray := prog_10_method_13_code
def yX8_isSheet : MethodName := ⟨RX8, "isSheet", "(II)Z"⟩
abbrev cX8_sheet : ByteArray := prog_10_method_14_code
def yX8_sheet : MethodName := ⟨RX8, "sheet", "(III)I"⟩
abbrev cX8_lay : ByteArray := prog_10_method_15_code
def yX8_lay : MethodName := ⟨RX8, "lay", "(III)I"⟩
abbrev cX8_draw : ByteArray := prog_10_method_16_code
def yX8_draw : MethodName := ⟨RX8, "draw", "(IIII)I"⟩
abbrev cX8_after : ByteArray := prog_10_method_17_code
def yX8_after : MethodName := ⟨RX8, "after", "(IIIII)I"⟩
abbrev cX8_mine : ByteArray := prog_10_method_18_code
def yX8_mine : MethodName := ⟨RX8, "mine", "(II)I"⟩
abbrev cX8_theirs : ByteArray := prog_10_method_19_code
def yX8_theirs : MethodName := ⟨RX8, "theirs", "(II)I"⟩
abbrev cX8_next : ByteArray := prog_10_method_20_code
def yX8_next : MethodName := ⟨RX8, "next", "(III)I"⟩
abbrev cX8_payOf : ByteArray := prog_10_method_21_code
def yX8_payOf : MethodName := ⟨RX8, "payOf", "(III)I"⟩
abbrev cX8_plays : ByteArray := prog_10_method_22_code
def yX8_plays : MethodName := ⟨RX8, "plays", "(III)V"⟩
abbrev cX8_areBoth : ByteArray := prog_10_method_23_code
def yX8_areBoth : MethodName := ⟨RX8, "areBoth", "(II)Z"⟩
abbrev cX8_action : ByteArray := prog_10_method_24_code
def yX8_action : MethodName := ⟨RX8, "action", "(III)I"⟩
abbrev cX8_sumOf : ByteArray := prog_10_method_25_code
def yX8_sumOf : MethodName := ⟨RX8, "sumOf", "(II)I"⟩
abbrev cX8_match : ByteArray := prog_10_method_26_code
def yX8_match : MethodName := ⟨RX8, "match", "(III)I"⟩
abbrev cX8_sumUp : ByteArray := prog_10_method_27_code
def yX8_sumUp : MethodName := ⟨RX8, "sumUp", "(III)I"⟩
abbrev cX8_sum : ByteArray := prog_10_method_28_code
def yX8_sum : MethodName := ⟨RX8, "sum", "(III)I"⟩
abbrev cX8_lowest : ByteArray := prog_10_method_29_code
def yX8_lowest : MethodName := ⟨RX8, "lowest", "(JJ)V"⟩
abbrev cX8_power : ByteArray := prog_10_method_30_code
def yX8_power : MethodName := ⟨RX8, "power", "(JI)J"⟩
abbrev cX8_worthOfRow : ByteArray := prog_10_method_31_code
def yX8_worthOfRow : MethodName := ⟨RX8, "worthOfRow", "()V"⟩
abbrev cX8_part : ByteArray := prog_10_method_32_code
def yX8_part : MethodName := ⟨RX8, "part", "(I)J"⟩
abbrev cX8_mean : ByteArray := prog_10_method_33_code
def yX8_mean : MethodName := ⟨RX8, "mean", "(III)J"⟩
abbrev cX8_findWorth : ByteArray := prog_10_method_34_code
def yX8_findWorth : MethodName := ⟨RX8, "findWorth", "(III)V"⟩
abbrev cX8_worth : ByteArray := prog_10_method_35_code
def yX8_worth : MethodName := ⟨RX8, "worth", "(III)J"⟩
abbrev cX8_slip : ByteArray := prog_10_method_36_code
def yX8_slip : MethodName := ⟨RX8, "slip", "(III)I"⟩
abbrev cX8_findUnlike : ByteArray := prog_10_method_37_code
def yX8_findUnlike : MethodName := ⟨RX8, "findUnlike", "(II)V"⟩
abbrev cX8_areLike : ByteArray := prog_10_method_38_code
def yX8_areLike : MethodName := ⟨RX8, "areLike", "(II)Z"⟩
abbrev cX8_like : ByteArray := prog_10_method_39_code
def yX8_like : MethodName := ⟨RX8, "like", "(II)I"⟩
abbrev cX8_smallest : ByteArray := prog_10_method_40_code
def yX8_smallest : MethodName := ⟨RX8, "smallest", "(I)I"⟩
abbrev cX8_plans : ByteArray := prog_10_method_41_code
def yX8_plans : MethodName := ⟨RX8, "plans", "(I)I"⟩
abbrev cX8_findPlanWorth : ByteArray := prog_10_method_42_code
def yX8_findPlanWorth : MethodName := ⟨RX8, "findPlanWorth", "(III)V"⟩
abbrev cX8_findBest : ByteArray := prog_10_method_43_code
def yX8_findBest : MethodName := ⟨RX8, "findBest", "(II)V"⟩
abbrev cX8_best : ByteArray := prog_10_method_44_code
def yX8_best : MethodName := ⟨RX8, "best", "(II)I"⟩
abbrev cX8_bestWorth : ByteArray := prog_10_method_45_code
def yX8_bestWorth : MethodName := ⟨RX8, "bestWorth", "(III)J"⟩
abbrev cX8_planWorth : ByteArray := prog_10_method_46_code
def yX8_planWorth : MethodName := ⟨RX8, "planWorth", "(IIII)J"⟩
abbrev cX8_isBest : ByteArray := prog_10_method_47_code
def yX8_isBest : MethodName := ⟨RX8, "isBest", "(III)Z"⟩
abbrev cX8_turned : ByteArray := prog_10_method_48_code
def yX8_turned : MethodName := ⟨RX8, "turned", "(I)I"⟩
abbrev cX8_rests : ByteArray := prog_10_method_49_code
def yX8_rests : MethodName := ⟨RX8, "rests", "(III)Z"⟩
abbrev cX8_rest : ByteArray := prog_10_method_50_code
def yX8_rest : MethodName := ⟨RX8, "rest", "(II)I"⟩
abbrev cX8_firstThatMoves : ByteArray := prog_10_method_51_code
def yX8_firstThatMoves : MethodName := ⟨RX8, "firstThatMoves", "(II)I"⟩
abbrev cX8_everywhere : ByteArray := prog_10_method_52_code
def yX8_everywhere : MethodName := ⟨RX8, "everywhere", "(II)I"⟩
abbrev cX8_deviation : ByteArray := prog_10_method_53_code
def yX8_deviation : MethodName := ⟨RX8, "deviation", "(III)I"⟩
abbrev cX8_compare : ByteArray := prog_10_method_54_code
def yX8_compare : MethodName := ⟨RX8, "compare", "(IIII)I"⟩
abbrev cX8_doesResist : ByteArray := prog_10_method_55_code
def yX8_doesResist : MethodName := ⟨RX8, "doesResist", "(II)Z"⟩
abbrev cX8_resists : ByteArray := prog_10_method_56_code
def yX8_resists : MethodName := ⟨RX8, "resists", "(II)I"⟩
abbrev cX8_invaders : ByteArray := prog_10_method_57_code
def yX8_invaders : MethodName := ⟨RX8, "invaders", "(I)I"⟩
abbrev cX8_scoreOf : ByteArray := prog_10_method_58_code
def yX8_scoreOf : MethodName := ⟨RX8, "scoreOf", "(II)I"⟩
abbrev cX8_score : ByteArray := prog_10_method_59_code
def yX8_score : MethodName := ⟨RX8, "score", "(II)I"⟩
abbrev cX8_place : ByteArray := prog_10_method_60_code
def yX8_place : MethodName := ⟨RX8, "place", "(II)I"⟩
abbrev cX8_count : ByteArray := prog_10_method_61_code
def yX8_count : MethodName := ⟨RX8, "count", "(I)I"⟩
def RJ13 : String := "java/lang/Long"
def TJ13 : u_T := fun k => match k with
  | _ => ("", "", "", false)
def tyJ13 : Nat → FieldType := fun k => match k with
  | _ => .int
abbrev wsJ130 : List Cond := u_ws RJ13 TJ13 0
theorem nmJ13 : ∀ a, a < 0 → ∀ b, b < 0 → a ≠ b → (TJ13 a).2.1 ≠ (TJ13 b).2.1 := by decide +kernel
theorem tyJ13_ok : ∀ k, k < 0 → parseFieldDescriptor (TJ13 k).2.2.1 = some (tyJ13 k) := by decide +kernel
abbrev cJ13_compare_74951 : ByteArray := prog_11_method_42_code
def yJ13_compare_74951 : MethodName := ⟨RJ13, "compare", "(JJ)I"⟩
def RJ9 : String := "java/lang/Math"
def TJ9 : u_T := fun k => match k with
  | _ => ("", "", "", false)
def tyJ9 : Nat → FieldType := fun k => match k with
  | _ => .int
abbrev wsJ90 : List Cond := u_ws RJ9 TJ9 0
theorem nmJ9 : ∀ a, a < 0 → ∀ b, b < 0 → a ≠ b → (TJ9 a).2.1 ≠ (TJ9 b).2.1 := by decide +kernel
theorem tyJ9_ok : ∀ k, k < 0 → parseFieldDescriptor (TJ9 k).2.2.1 = some (tyJ9 k) := by decide +kernel
abbrev cJ9_abs_067f4 : ByteArray := prog_12_method_61_code
def yJ9_abs_067f4 : MethodName := ⟨RJ9, "abs", "(J)J"⟩
def RJ7 : String := "java/util/Arrays"
def TJ7 : u_T := fun k => match k with
  | _ => ("", "", "", false)
def tyJ7 : Nat → FieldType := fun k => match k with
  | _ => .int
abbrev wsJ70 : List Cond := u_ws RJ7 TJ7 0
theorem nmJ7 : ∀ a, a < 0 → ∀ b, b < 0 → a ≠ b → (TJ7 a).2.1 ≠ (TJ7 b).2.1 := by decide +kernel
theorem tyJ7_ok : ∀ k, k < 0 → parseFieldDescriptor (TJ7 k).2.2.1 = some (tyJ7 k) := by decide +kernel
abbrev cJ7_rangeCheck_23922 : ByteArray := prog_13_method_30_code
def yJ7_rangeCheck_23922 : MethodName := ⟨RJ7, "rangeCheck", "(III)V"⟩
abbrev cJ7_fill_53178 : ByteArray := prog_13_method_103_code
def yJ7_fill_53178 : MethodName := ⟨RJ7, "fill", "([II)V"⟩
abbrev cJ7_fill_fda19 : ByteArray := prog_13_method_104_code
def yJ7_fill_fda19 : MethodName := ⟨RJ7, "fill", "([IIII)V"⟩
def RL : String := "AgainAgainLaw"
abbrev cL_law : ByteArray := code
def yL_law : MethodName := ⟨RL, "law", "([I)Z"⟩
def wsX0_init : List Cond := .code yX0_init cX0_init 1 none :: ([.methodLink RX0 1 objectInit, .instanceMethod objectInit, .code objectInit ⟨#[0xb1]⟩ 1 none, .arrayClass .int, .fieldLink RX0 9 "AgainAgain$Game" "gains" "[I", .fieldLink RX0 13 "AgainAgain$Game" "over" "J", .constantLong RX0 17 (2), .fieldLink RX0 19 "AgainAgain$Game" "under" "J"] ++ wsX00)
def wsX0_setGain : List Cond := .code yX0_setGain cX0_setGain 4 none :: ([.fieldLink RX0 9 "AgainAgain$Game" "gains" "[I"] ++ wsX00)
def wsX0_gain : List Cond := .code yX0_gain cX0_gain 3 (some .int) :: ([.fieldLink RX0 9 "AgainAgain$Game" "gains" "[I"] ++ wsX00)
def wsX0_setRate : List Cond := .code yX0_setRate cX0_setRate 3 none :: ([.fieldLink RX0 13 "AgainAgain$Game" "over" "J", .fieldLink RX0 19 "AgainAgain$Game" "under" "J"] ++ wsX00)
def wsX0_rateOver : List Cond := .code yX0_rateOver cX0_rateOver 1 (some .long) :: ([.fieldLink RX0 13 "AgainAgain$Game" "over" "J"] ++ wsX00)
def wsX0_rateUnder : List Cond := .code yX0_rateUnder cX0_rateUnder 1 (some .long) :: ([.fieldLink RX0 19 "AgainAgain$Game" "under" "J"] ++ wsX00)
def wsX1_init : List Cond := .code yX1_init cX1_init 1 none :: ([.methodLink RX1 1 objectInit, .instanceMethod objectInit, .code objectInit ⟨#[0xb1]⟩ 1 none, .arrayClass .int, .fieldLink RX1 9 "AgainAgain$Likeness" "pairs" "[I"] ++ wsX10)
def wsX6_placeOf : List Cond := .code yX6_placeOf cX6_placeOf 2 (some .int) :: ([])
def wsX6_mine : List Cond := .code yX6_mine cX6_mine 1 (some .int) :: ([])
def wsX6_theirs : List Cond := .code yX6_theirs cX6_theirs 1 (some .int) :: ([])
def wsX2_actionOf : List Cond := .code yX2_actionOf cX2_actionOf 3 (some .int) :: ([.fieldLink RX2 13 "AgainAgain$Machines" "actions" "[I"] ++ wsX20)
def wsX2_nextOf : List Cond := .code yX2_nextOf cX2_nextOf 4 (some .int) :: ([.fieldLink RX2 18 "AgainAgain$Machines" "nexts" "[I"] ++ wsX20)
def wsX1_holds : List Cond := .code yX1_holds cX1_holds 2 (some .boolean) :: ([])
def wsX1_statesLike_r1 : List Cond := [Cond.fieldLink RX1 9 "AgainAgain$Likeness" "pairs" "[I", Cond.methodLink RX1 55 yX6_placeOf, Cond.static yX6_placeOf, Cond.initialized RX6, Cond.code yX6_placeOf cX6_placeOf 2 (some .int), Cond.methodLink RX1 59 yX6_mine, Cond.static yX6_mine, Cond.code yX6_mine cX6_mine 1 (some .int), Cond.methodLink RX1 62 yX6_theirs, Cond.static yX6_theirs, Cond.code yX6_theirs cX6_theirs 1 (some .int), Cond.methodLink RX1 65 yX2_actionOf, Cond.instanceMethod yX2_actionOf, Cond.selects RX2 yX2_actionOf yX2_actionOf, Cond.initialized RX2, Cond.code yX2_actionOf cX2_actionOf 3 (some .int), Cond.fieldLink RX2 13 "AgainAgain$Machines" "actions" "[I", Cond.methodLink RX1 51 yX2_nextOf, Cond.instanceMethod yX2_nextOf, Cond.selects RX2 yX2_nextOf yX2_nextOf, Cond.code yX2_nextOf cX2_nextOf 4 (some .int), Cond.fieldLink RX2 18 "AgainAgain$Machines" "nexts" "[I", Cond.methodLink RX1 41 yX1_holds, Cond.static yX1_holds]
def wsX1_statesLike_r2 : List Cond := [Cond.initialized RX1, Cond.code yX1_holds cX1_holds 2 (some .boolean)]
def wsX1_statesLike : List Cond := .code yX1_statesLike cX1_statesLike 13 (some .boolean) :: ((wsX1_statesLike_r1 ++ wsX1_statesLike_r2) ++ wsX10 ++ wsX20)
def wsX1_areLike_r1 : List Cond := [Cond.methodLink RX1 15 yX1_statesLike, Cond.instanceMethod yX1_statesLike, Cond.selects RX1 yX1_statesLike yX1_statesLike, Cond.initialized RX1, Cond.code yX1_statesLike cX1_statesLike 13 (some .boolean), Cond.fieldLink RX1 9 "AgainAgain$Likeness" "pairs" "[I", Cond.methodLink RX1 55 yX6_placeOf, Cond.static yX6_placeOf, Cond.initialized RX6, Cond.code yX6_placeOf cX6_placeOf 2 (some .int), Cond.methodLink RX1 59 yX6_mine, Cond.static yX6_mine, Cond.code yX6_mine cX6_mine 1 (some .int), Cond.methodLink RX1 62 yX6_theirs, Cond.static yX6_theirs, Cond.code yX6_theirs cX6_theirs 1 (some .int), Cond.methodLink RX1 65 yX2_actionOf, Cond.instanceMethod yX2_actionOf, Cond.selects RX2 yX2_actionOf yX2_actionOf, Cond.initialized RX2, Cond.code yX2_actionOf cX2_actionOf 3 (some .int), Cond.fieldLink RX2 13 "AgainAgain$Machines" "actions" "[I", Cond.methodLink RX1 51 yX2_nextOf, Cond.instanceMethod yX2_nextOf]
def wsX1_areLike_r2 : List Cond := [Cond.selects RX2 yX2_nextOf yX2_nextOf, Cond.code yX2_nextOf cX2_nextOf 4 (some .int), Cond.fieldLink RX2 18 "AgainAgain$Machines" "nexts" "[I", Cond.methodLink RX1 41 yX1_holds, Cond.static yX1_holds, Cond.code yX1_holds cX1_holds 2 (some .boolean)]
def wsX1_areLike : List Cond := .code yX1_areLike cX1_areLike 4 (some .boolean) :: ((wsX1_areLike_r1 ++ wsX1_areLike_r2) ++ wsX10 ++ wsX20)
def wsX2_many : List Cond := .code yX2_many cX2_many 1 (some .int) :: ([.fieldLink RX2 21 "AgainAgain$Machines" "many" "I"] ++ wsX20)
def wsX1_isNew_r1 : List Cond := [Cond.methodLink RX1 29 yX1_areLike, Cond.instanceMethod yX1_areLike, Cond.selects RX1 yX1_areLike yX1_areLike, Cond.initialized RX1, Cond.code yX1_areLike cX1_areLike 4 (some .boolean), Cond.methodLink RX1 15 yX1_statesLike, Cond.instanceMethod yX1_statesLike, Cond.selects RX1 yX1_statesLike yX1_statesLike, Cond.code yX1_statesLike cX1_statesLike 13 (some .boolean), Cond.fieldLink RX1 9 "AgainAgain$Likeness" "pairs" "[I", Cond.methodLink RX1 55 yX6_placeOf, Cond.static yX6_placeOf, Cond.initialized RX6, Cond.code yX6_placeOf cX6_placeOf 2 (some .int), Cond.methodLink RX1 59 yX6_mine, Cond.static yX6_mine, Cond.code yX6_mine cX6_mine 1 (some .int), Cond.methodLink RX1 62 yX6_theirs, Cond.static yX6_theirs, Cond.code yX6_theirs cX6_theirs 1 (some .int), Cond.methodLink RX1 65 yX2_actionOf, Cond.instanceMethod yX2_actionOf, Cond.selects RX2 yX2_actionOf yX2_actionOf, Cond.initialized RX2]
def wsX1_isNew_r2 : List Cond := [Cond.code yX2_actionOf cX2_actionOf 3 (some .int), Cond.fieldLink RX2 13 "AgainAgain$Machines" "actions" "[I", Cond.methodLink RX1 51 yX2_nextOf, Cond.instanceMethod yX2_nextOf, Cond.selects RX2 yX2_nextOf yX2_nextOf, Cond.code yX2_nextOf cX2_nextOf 4 (some .int), Cond.fieldLink RX2 18 "AgainAgain$Machines" "nexts" "[I", Cond.methodLink RX1 41 yX1_holds, Cond.static yX1_holds, Cond.code yX1_holds cX1_holds 2 (some .boolean)]
def wsX1_isNew : List Cond := .code yX1_isNew cX1_isNew 4 (some .boolean) :: ((wsX1_isNew_r1 ++ wsX1_isNew_r2) ++ wsX10 ++ wsX20)
def wsX1_unlikeMachines_r1 : List Cond := [Cond.methodLink RX1 19 yX2_many, Cond.instanceMethod yX2_many, Cond.selects RX2 yX2_many yX2_many, Cond.initialized RX2, Cond.code yX2_many cX2_many 1 (some .int), Cond.fieldLink RX2 21 "AgainAgain$Machines" "many" "I", Cond.methodLink RX1 25 yX1_isNew, Cond.instanceMethod yX1_isNew, Cond.selects RX1 yX1_isNew yX1_isNew, Cond.initialized RX1, Cond.code yX1_isNew cX1_isNew 4 (some .boolean), Cond.methodLink RX1 29 yX1_areLike, Cond.instanceMethod yX1_areLike, Cond.selects RX1 yX1_areLike yX1_areLike, Cond.code yX1_areLike cX1_areLike 4 (some .boolean), Cond.methodLink RX1 15 yX1_statesLike, Cond.instanceMethod yX1_statesLike, Cond.selects RX1 yX1_statesLike yX1_statesLike, Cond.code yX1_statesLike cX1_statesLike 13 (some .boolean), Cond.fieldLink RX1 9 "AgainAgain$Likeness" "pairs" "[I", Cond.methodLink RX1 55 yX6_placeOf, Cond.static yX6_placeOf, Cond.initialized RX6, Cond.code yX6_placeOf cX6_placeOf 2 (some .int)]
def wsX1_unlikeMachines_r2 : List Cond := [Cond.methodLink RX1 59 yX6_mine, Cond.static yX6_mine, Cond.code yX6_mine cX6_mine 1 (some .int), Cond.methodLink RX1 62 yX6_theirs, Cond.static yX6_theirs, Cond.code yX6_theirs cX6_theirs 1 (some .int), Cond.methodLink RX1 65 yX2_actionOf, Cond.instanceMethod yX2_actionOf, Cond.selects RX2 yX2_actionOf yX2_actionOf, Cond.code yX2_actionOf cX2_actionOf 3 (some .int), Cond.fieldLink RX2 13 "AgainAgain$Machines" "actions" "[I", Cond.methodLink RX1 51 yX2_nextOf, Cond.instanceMethod yX2_nextOf, Cond.selects RX2 yX2_nextOf yX2_nextOf, Cond.code yX2_nextOf cX2_nextOf 4 (some .int), Cond.fieldLink RX2 18 "AgainAgain$Machines" "nexts" "[I", Cond.methodLink RX1 41 yX1_holds, Cond.static yX1_holds, Cond.code yX1_holds cX1_holds 2 (some .boolean)]
def wsX1_unlikeMachines : List Cond := .code yX1_unlikeMachines cX1_unlikeMachines 4 (some .int) :: ((wsX1_unlikeMachines_r1 ++ wsX1_unlikeMachines_r2) ++ wsX20 ++ wsX10)
def wsX2_statesOf : List Cond := .code yX2_statesOf cX2_statesOf 2 (some .int) :: ([.fieldLink RX2 9 "AgainAgain$Machines" "sizes" "[I"] ++ wsX20)
def wsX1_reachedStates : List Cond := .code yX1_reachedStates cX1_reachedStates 6 (some .int) :: ([.methodLink RX1 37 yX2_statesOf, .instanceMethod yX2_statesOf, .selects RX2 yX2_statesOf yX2_statesOf, .initialized RX2, .code yX2_statesOf cX2_statesOf 2 (some .int), .fieldLink RX2 9 "AgainAgain$Machines" "sizes" "[I", .methodLink RX1 41 yX1_holds, .static yX1_holds, .initialized RX1, .code yX1_holds cX1_holds 2 (some .boolean), .methodLink RX1 51 yX2_nextOf, .instanceMethod yX2_nextOf, .selects RX2 yX2_nextOf yX2_nextOf, .code yX2_nextOf cX2_nextOf 4 (some .int), .fieldLink RX2 18 "AgainAgain$Machines" "nexts" "[I"] ++ wsX20)
def wsX1_isNewState_r1 : List Cond := [Cond.methodLink RX1 41 yX1_holds, Cond.static yX1_holds, Cond.initialized RX1, Cond.code yX1_holds cX1_holds 2 (some .boolean), Cond.methodLink RX1 15 yX1_statesLike, Cond.instanceMethod yX1_statesLike, Cond.selects RX1 yX1_statesLike yX1_statesLike, Cond.code yX1_statesLike cX1_statesLike 13 (some .boolean), Cond.fieldLink RX1 9 "AgainAgain$Likeness" "pairs" "[I", Cond.methodLink RX1 55 yX6_placeOf, Cond.static yX6_placeOf, Cond.initialized RX6, Cond.code yX6_placeOf cX6_placeOf 2 (some .int), Cond.methodLink RX1 59 yX6_mine, Cond.static yX6_mine, Cond.code yX6_mine cX6_mine 1 (some .int), Cond.methodLink RX1 62 yX6_theirs, Cond.static yX6_theirs, Cond.code yX6_theirs cX6_theirs 1 (some .int), Cond.methodLink RX1 65 yX2_actionOf, Cond.instanceMethod yX2_actionOf, Cond.selects RX2 yX2_actionOf yX2_actionOf, Cond.initialized RX2, Cond.code yX2_actionOf cX2_actionOf 3 (some .int)]
def wsX1_isNewState_r2 : List Cond := [Cond.fieldLink RX2 13 "AgainAgain$Machines" "actions" "[I", Cond.methodLink RX1 51 yX2_nextOf, Cond.instanceMethod yX2_nextOf, Cond.selects RX2 yX2_nextOf yX2_nextOf, Cond.code yX2_nextOf cX2_nextOf 4 (some .int), Cond.fieldLink RX2 18 "AgainAgain$Machines" "nexts" "[I"]
def wsX1_isNewState : List Cond := .code yX1_isNewState cX1_isNewState 6 (some .boolean) :: ((wsX1_isNewState_r1 ++ wsX1_isNewState_r2) ++ wsX10 ++ wsX20)
def wsX1_unlikeStates_r1 : List Cond := [Cond.methodLink RX1 33 yX1_reachedStates, Cond.static yX1_reachedStates, Cond.initialized RX1, Cond.code yX1_reachedStates cX1_reachedStates 6 (some .int), Cond.methodLink RX1 37 yX2_statesOf, Cond.instanceMethod yX2_statesOf, Cond.selects RX2 yX2_statesOf yX2_statesOf, Cond.initialized RX2, Cond.code yX2_statesOf cX2_statesOf 2 (some .int), Cond.fieldLink RX2 9 "AgainAgain$Machines" "sizes" "[I", Cond.methodLink RX1 41 yX1_holds, Cond.static yX1_holds, Cond.code yX1_holds cX1_holds 2 (some .boolean), Cond.methodLink RX1 51 yX2_nextOf, Cond.instanceMethod yX2_nextOf, Cond.selects RX2 yX2_nextOf yX2_nextOf, Cond.code yX2_nextOf cX2_nextOf 4 (some .int), Cond.fieldLink RX2 18 "AgainAgain$Machines" "nexts" "[I", Cond.methodLink RX1 45 yX1_isNewState, Cond.instanceMethod yX1_isNewState, Cond.selects RX1 yX1_isNewState yX1_isNewState, Cond.code yX1_isNewState cX1_isNewState 6 (some .boolean), Cond.methodLink RX1 15 yX1_statesLike, Cond.instanceMethod yX1_statesLike]
def wsX1_unlikeStates_r2 : List Cond := [Cond.selects RX1 yX1_statesLike yX1_statesLike, Cond.code yX1_statesLike cX1_statesLike 13 (some .boolean), Cond.fieldLink RX1 9 "AgainAgain$Likeness" "pairs" "[I", Cond.methodLink RX1 55 yX6_placeOf, Cond.static yX6_placeOf, Cond.initialized RX6, Cond.code yX6_placeOf cX6_placeOf 2 (some .int), Cond.methodLink RX1 59 yX6_mine, Cond.static yX6_mine, Cond.code yX6_mine cX6_mine 1 (some .int), Cond.methodLink RX1 62 yX6_theirs, Cond.static yX6_theirs, Cond.code yX6_theirs cX6_theirs 1 (some .int), Cond.methodLink RX1 65 yX2_actionOf, Cond.instanceMethod yX2_actionOf, Cond.selects RX2 yX2_actionOf yX2_actionOf, Cond.code yX2_actionOf cX2_actionOf 3 (some .int), Cond.fieldLink RX2 13 "AgainAgain$Machines" "actions" "[I"]
def wsX1_unlikeStates : List Cond := .code yX1_unlikeStates cX1_unlikeStates 6 (some .int) :: ((wsX1_unlikeStates_r1 ++ wsX1_unlikeStates_r2) ++ wsX20 ++ wsX10)
def wsX2_init : List Cond := .code yX2_init cX2_init 1 none :: ([.methodLink RX2 1 objectInit, .instanceMethod objectInit, .code objectInit ⟨#[0xb1]⟩ 1 none, .arrayClass .int, .fieldLink RX2 9 "AgainAgain$Machines" "sizes" "[I", .fieldLink RX2 13 "AgainAgain$Machines" "actions" "[I", .fieldLink RX2 18 "AgainAgain$Machines" "nexts" "[I", .fieldLink RX2 21 "AgainAgain$Machines" "many" "I"] ++ wsX20)
def wsX2_isFull : List Cond := .code yX2_isFull cX2_isFull 1 (some .boolean) :: ([.fieldLink RX2 21 "AgainAgain$Machines" "many" "I"] ++ wsX20)
def wsX2_has : List Cond := .code yX2_has cX2_has 2 (some .boolean) :: ([.fieldLink RX2 21 "AgainAgain$Machines" "many" "I"] ++ wsX20)
def wsX2_hasState : List Cond := .code yX2_hasState cX2_hasState 3 (some .boolean) :: ([.fieldLink RX2 9 "AgainAgain$Machines" "sizes" "[I", .methodLink RX2 25 yX2_has, .instanceMethod yX2_has, .selects RX2 yX2_has yX2_has, .initialized RX2, .code yX2_has cX2_has 2 (some .boolean), .fieldLink RX2 21 "AgainAgain$Machines" "many" "I"] ++ wsX20)
def wsX2_setAction : List Cond := .code yX2_setAction cX2_setAction 4 none :: ([.fieldLink RX2 13 "AgainAgain$Machines" "actions" "[I"] ++ wsX20)
def wsX2_setNext : List Cond := .code yX2_setNext cX2_setNext 5 none :: ([.fieldLink RX2 18 "AgainAgain$Machines" "nexts" "[I"] ++ wsX20)
def wsX2_add : List Cond := .code yX2_add cX2_add 5 (some .int) :: ([.fieldLink RX2 21 "AgainAgain$Machines" "many" "I", .fieldLink RX2 9 "AgainAgain$Machines" "sizes" "[I", .methodLink RX2 29 yX2_setAction, .instanceMethod yX2_setAction, .selects RX2 yX2_setAction yX2_setAction, .initialized RX2, .code yX2_setAction cX2_setAction 4 none, .fieldLink RX2 13 "AgainAgain$Machines" "actions" "[I", .methodLink RX2 33 yX2_setNext, .instanceMethod yX2_setNext, .selects RX2 yX2_setNext yX2_setNext, .code yX2_setNext cX2_setNext 5 none, .fieldLink RX2 18 "AgainAgain$Machines" "nexts" "[I"] ++ wsX20)
def wsX2_removeLatest : List Cond := .code yX2_removeLatest cX2_removeLatest 1 (some .int) :: ([.fieldLink RX2 21 "AgainAgain$Machines" "many" "I"] ++ wsX20)
def wsX6_init : List Cond := .code yX6_init cX6_init 1 none :: ([.methodLink RX6 5 objectInit, .instanceMethod objectInit, .code objectInit ⟨#[0xb1]⟩ 1 none, .arrayClass .int, .fieldLink RX6 11 "AgainAgain$Walk" "nexts" "[I", .fieldLink RX6 15 "AgainAgain$Walk" "gains" "[I", .fieldLink RX6 18 "AgainAgain$Walk" "firstMet" "[I", .fieldLink RX6 21 "AgainAgain$Walk" "path" "[I", .fieldLink RX6 24 "AgainAgain$Walk" "tail" "I", .fieldLink RX6 28 "AgainAgain$Walk" "ring" "I"] ++ wsX60)
def wsX4_init : List Cond := .code yX4_init cX4_init 1 none :: ([.methodLink RX4 1 objectInit, .instanceMethod objectInit, .code objectInit ⟨#[0xb1]⟩ 1 none, .fieldLink RX4 7 "AgainAgain$Ratio" "top" "J", .fieldLink RX4 13 "AgainAgain$Ratio" "bottom" "J"] ++ wsX40)
def wsX3_init_r1 : List Cond := [Cond.methodLink RX3 3 objectInit, Cond.instanceMethod objectInit, Cond.code objectInit ⟨#[0xb1]⟩ 1 none, Cond.arrayClass .int, Cond.fieldLink RX3 11 "AgainAgain$Plans" "plans" "[I", Cond.arrayClass .long, Cond.fieldLink RX3 15 "AgainAgain$Plans" "tops" "[J", Cond.fieldLink RX3 19 "AgainAgain$Plans" "bottoms" "[J", Cond.classLink RX3 22 RX6, Cond.instantiable RX6 6, Cond.initialized RX6, Cond.fieldLink RX3 25 "AgainAgain$Plans" "walk" "LAgainAgain$Walk;", Cond.classLink RX3 29 RX4, Cond.instantiable RX4 2, Cond.initialized RX4, Cond.fieldLink RX3 32 "AgainAgain$Plans" "tried" "LAgainAgain$Ratio;", Cond.instanceMethod yX6_init, Cond.code yX6_init cX6_init 1 none, Cond.methodLink RX6 5 objectInit, Cond.fieldLink RX6 11 "AgainAgain$Walk" "nexts" "[I", Cond.fieldLink RX6 15 "AgainAgain$Walk" "gains" "[I", Cond.fieldLink RX6 18 "AgainAgain$Walk" "firstMet" "[I", Cond.fieldLink RX6 21 "AgainAgain$Walk" "path" "[I", Cond.fieldLink RX6 24 "AgainAgain$Walk" "tail" "I"]
def wsX3_init_r2 : List Cond := [Cond.fieldLink RX6 28 "AgainAgain$Walk" "ring" "I", Cond.instanceMethod yX4_init, Cond.code yX4_init cX4_init 1 none, Cond.methodLink RX4 1 objectInit, Cond.fieldLink RX4 7 "AgainAgain$Ratio" "top" "J", Cond.fieldLink RX4 13 "AgainAgain$Ratio" "bottom" "J"]
def wsX3_init : List Cond := .code yX3_init cX3_init 1 none :: ((wsX3_init_r1 ++ wsX3_init_r2) ++ wsX30 ++ wsX60 ++ wsX40)
def wsX3_plansAgainst : List Cond := .code yX3_plansAgainst cX3_plansAgainst 3 (some .int) :: ([])
def wsX3_slotOf : List Cond := .code yX3_slotOf cX3_slotOf 2 (some .int) :: ([])
def wsX6_takePlan : List Cond := .code yX6_takePlan cX6_takePlan 8 none :: ([.fieldLink RX6 11 "AgainAgain$Walk" "nexts" "[I", .fieldLink RX6 15 "AgainAgain$Walk" "gains" "[I", .methodLink RX6 31 yX2_statesOf, .instanceMethod yX2_statesOf, .selects RX2 yX2_statesOf yX2_statesOf, .initialized RX2, .code yX2_statesOf cX2_statesOf 2 (some .int), .fieldLink RX2 9 "AgainAgain$Machines" "sizes" "[I", .methodLink RX6 42 yX2_nextOf, .instanceMethod yX2_nextOf, .selects RX2 yX2_nextOf yX2_nextOf, .code yX2_nextOf cX2_nextOf 4 (some .int), .fieldLink RX2 18 "AgainAgain$Machines" "nexts" "[I", .methodLink RX6 35 yX2_actionOf, .instanceMethod yX2_actionOf, .selects RX2 yX2_actionOf yX2_actionOf, .code yX2_actionOf cX2_actionOf 3 (some .int), .fieldLink RX2 13 "AgainAgain$Machines" "actions" "[I", .methodLink RX6 46 yX0_gain, .instanceMethod yX0_gain, .selects RX0 yX0_gain yX0_gain, .initialized RX0, .code yX0_gain cX0_gain 3 (some .int), .fieldLink RX0 9 "AgainAgain$Game" "gains" "[I"] ++ wsX60 ++ wsX20 ++ wsX00)
def wsJ7_fill_53178 : List Cond := .code yJ7_fill_53178 cJ7_fill_53178 4 none :: ([])
def wsX6_startAt : List Cond := .code yX6_startAt cX6_startAt 4 none :: ([.fieldLink RX6 18 "AgainAgain$Walk" "firstMet" "[I", .fieldLink RX6 21 "AgainAgain$Walk" "path" "[I", .fieldLink RX6 11 "AgainAgain$Walk" "nexts" "[I", .fieldLink RX6 24 "AgainAgain$Walk" "tail" "I", .fieldLink RX6 28 "AgainAgain$Walk" "ring" "I", .methodLink RX6 51 yJ7_fill_53178, .static yJ7_fill_53178, .initialized RJ7, .code yJ7_fill_53178 cJ7_fill_53178 4 none] ++ wsX60)
def wsX6_power : List Cond := .code yX6_power cX6_power 6 (some .long) :: ([])
def wsX6_weighedAlong : List Cond := .code yX6_weighedAlong cX6_weighedAlong 12 (some .long) :: ([.fieldLink RX6 15 "AgainAgain$Walk" "gains" "[I", .fieldLink RX6 21 "AgainAgain$Walk" "path" "[I"] ++ wsX60)
def wsX4_greatestShared : List Cond := .code yX4_greatestShared cX4_greatestShared 11 (some .long) :: ([])
def wsX4_become : List Cond := .code yX4_become cX4_become 7 none :: ([.methodLink RX4 16 Lib.MathLoose.abs_long.x, .static Lib.MathLoose.abs_long.x, .initialized "java/lang/Math", .code Lib.MathLoose.abs_long.x Lib.MathLoose.abs_long.code 2 (some .long), .fieldLink RX4 7 "AgainAgain$Ratio" "top" "J", .fieldLink RX4 13 "AgainAgain$Ratio" "bottom" "J", .methodLink RX4 22 yX4_greatestShared, .static yX4_greatestShared, .initialized RX4, .code yX4_greatestShared cX4_greatestShared 11 (some .long)] ++ wsX40)
def wsX6_worthInto_r1 : List Cond := [Cond.fieldLink RX6 28 "AgainAgain$Walk" "ring" "I", Cond.fieldLink RX6 24 "AgainAgain$Walk" "tail" "I", Cond.methodLink RX6 67 yX0_rateOver, Cond.instanceMethod yX0_rateOver, Cond.selects RX0 yX0_rateOver yX0_rateOver, Cond.initialized RX0, Cond.code yX0_rateOver cX0_rateOver 1 (some .long), Cond.fieldLink RX0 13 "AgainAgain$Game" "over" "J", Cond.methodLink RX6 71 yX0_rateUnder, Cond.instanceMethod yX0_rateUnder, Cond.selects RX0 yX0_rateUnder yX0_rateUnder, Cond.code yX0_rateUnder cX0_rateUnder 1 (some .long), Cond.fieldLink RX0 19 "AgainAgain$Game" "under" "J", Cond.methodLink RX6 74 yX6_power, Cond.static yX6_power, Cond.initialized RX6, Cond.code yX6_power cX6_power 6 (some .long), Cond.methodLink RX6 78 yX6_weighedAlong, Cond.instanceMethod yX6_weighedAlong, Cond.selects RX6 yX6_weighedAlong yX6_weighedAlong, Cond.code yX6_weighedAlong cX6_weighedAlong 12 (some .long), Cond.fieldLink RX6 15 "AgainAgain$Walk" "gains" "[I", Cond.fieldLink RX6 21 "AgainAgain$Walk" "path" "[I", Cond.methodLink RX6 82 yX4_become]
def wsX6_worthInto_r2 : List Cond := [Cond.instanceMethod yX4_become, Cond.selects RX4 yX4_become yX4_become, Cond.initialized RX4, Cond.code yX4_become cX4_become 7 none, Cond.methodLink RX4 16 Lib.MathLoose.abs_long.x, Cond.static Lib.MathLoose.abs_long.x, Cond.initialized "java/lang/Math", Cond.code Lib.MathLoose.abs_long.x Lib.MathLoose.abs_long.code 2 (some .long), Cond.fieldLink RX4 7 "AgainAgain$Ratio" "top" "J", Cond.fieldLink RX4 13 "AgainAgain$Ratio" "bottom" "J", Cond.methodLink RX4 22 yX4_greatestShared, Cond.static yX4_greatestShared, Cond.code yX4_greatestShared cX4_greatestShared 11 (some .long)]
def wsX6_worthInto : List Cond := .code yX6_worthInto cX6_worthInto 11 none :: ((wsX6_worthInto_r1 ++ wsX6_worthInto_r2) ++ wsX60 ++ wsX00 ++ wsX40)
def wsX3_weigh_r1 : List Cond := [Cond.fieldLink RX3 25 "AgainAgain$Plans" "walk" "LAgainAgain$Walk;", Cond.methodLink RX3 38 yX6_takePlan, Cond.instanceMethod yX6_takePlan, Cond.selects RX6 yX6_takePlan yX6_takePlan, Cond.initialized RX6, Cond.code yX6_takePlan cX6_takePlan 8 none, Cond.fieldLink RX6 11 "AgainAgain$Walk" "nexts" "[I", Cond.fieldLink RX6 15 "AgainAgain$Walk" "gains" "[I", Cond.methodLink RX6 31 yX2_statesOf, Cond.instanceMethod yX2_statesOf, Cond.selects RX2 yX2_statesOf yX2_statesOf, Cond.initialized RX2, Cond.code yX2_statesOf cX2_statesOf 2 (some .int), Cond.fieldLink RX2 9 "AgainAgain$Machines" "sizes" "[I", Cond.methodLink RX6 42 yX2_nextOf, Cond.instanceMethod yX2_nextOf, Cond.selects RX2 yX2_nextOf yX2_nextOf, Cond.code yX2_nextOf cX2_nextOf 4 (some .int), Cond.fieldLink RX2 18 "AgainAgain$Machines" "nexts" "[I", Cond.methodLink RX6 35 yX2_actionOf, Cond.instanceMethod yX2_actionOf, Cond.selects RX2 yX2_actionOf yX2_actionOf, Cond.code yX2_actionOf cX2_actionOf 3 (some .int), Cond.fieldLink RX2 13 "AgainAgain$Machines" "actions" "[I"]
def wsX3_weigh_r2 : List Cond := [Cond.methodLink RX6 46 yX0_gain, Cond.instanceMethod yX0_gain, Cond.selects RX0 yX0_gain yX0_gain, Cond.initialized RX0, Cond.code yX0_gain cX0_gain 3 (some .int), Cond.fieldLink RX0 9 "AgainAgain$Game" "gains" "[I", Cond.methodLink RX3 42 yX6_startAt, Cond.instanceMethod yX6_startAt, Cond.selects RX6 yX6_startAt yX6_startAt, Cond.code yX6_startAt cX6_startAt 4 none, Cond.fieldLink RX6 18 "AgainAgain$Walk" "firstMet" "[I", Cond.fieldLink RX6 21 "AgainAgain$Walk" "path" "[I", Cond.fieldLink RX6 24 "AgainAgain$Walk" "tail" "I", Cond.fieldLink RX6 28 "AgainAgain$Walk" "ring" "I", Cond.methodLink RX6 51 yJ7_fill_53178, Cond.static yJ7_fill_53178, Cond.initialized RJ7, Cond.code yJ7_fill_53178 cJ7_fill_53178 4 none, Cond.methodLink RX3 46 yX6_worthInto, Cond.instanceMethod yX6_worthInto, Cond.selects RX6 yX6_worthInto yX6_worthInto, Cond.code yX6_worthInto cX6_worthInto 11 none, Cond.methodLink RX6 67 yX0_rateOver, Cond.instanceMethod yX0_rateOver]
def wsX3_weigh_r3 : List Cond := [Cond.selects RX0 yX0_rateOver yX0_rateOver, Cond.code yX0_rateOver cX0_rateOver 1 (some .long), Cond.fieldLink RX0 13 "AgainAgain$Game" "over" "J", Cond.methodLink RX6 71 yX0_rateUnder, Cond.instanceMethod yX0_rateUnder, Cond.selects RX0 yX0_rateUnder yX0_rateUnder, Cond.code yX0_rateUnder cX0_rateUnder 1 (some .long), Cond.fieldLink RX0 19 "AgainAgain$Game" "under" "J", Cond.methodLink RX6 74 yX6_power, Cond.static yX6_power, Cond.code yX6_power cX6_power 6 (some .long), Cond.methodLink RX6 78 yX6_weighedAlong, Cond.instanceMethod yX6_weighedAlong, Cond.selects RX6 yX6_weighedAlong yX6_weighedAlong, Cond.code yX6_weighedAlong cX6_weighedAlong 12 (some .long), Cond.methodLink RX6 82 yX4_become, Cond.instanceMethod yX4_become, Cond.selects RX4 yX4_become yX4_become, Cond.initialized RX4, Cond.code yX4_become cX4_become 7 none, Cond.methodLink RX4 16 Lib.MathLoose.abs_long.x, Cond.static Lib.MathLoose.abs_long.x, Cond.initialized "java/lang/Math", Cond.code Lib.MathLoose.abs_long.x Lib.MathLoose.abs_long.code 2 (some .long)]
def wsX3_weigh_r4 : List Cond := [Cond.fieldLink RX4 7 "AgainAgain$Ratio" "top" "J", Cond.fieldLink RX4 13 "AgainAgain$Ratio" "bottom" "J", Cond.methodLink RX4 22 yX4_greatestShared, Cond.static yX4_greatestShared, Cond.code yX4_greatestShared cX4_greatestShared 11 (some .long)]
def wsX3_weigh : List Cond := .code yX3_weigh cX3_weigh 7 none :: ((wsX3_weigh_r1 ++ (wsX3_weigh_r2 ++ (wsX3_weigh_r3 ++ wsX3_weigh_r4))) ++ wsX30 ++ wsX60 ++ wsX20 ++ wsX00 ++ wsX40)
def wsX4_part : List Cond := .code yX4_part cX4_part 2 (some .long) :: ([.fieldLink RX4 7 "AgainAgain$Ratio" "top" "J", .fieldLink RX4 13 "AgainAgain$Ratio" "bottom" "J"] ++ wsX40)
def wsX3_keep : List Cond := .code yX3_keep cX3_keep 3 none :: ([.fieldLink RX3 11 "AgainAgain$Plans" "plans" "[I", .fieldLink RX3 15 "AgainAgain$Plans" "tops" "[J", .fieldLink RX3 32 "AgainAgain$Plans" "tried" "LAgainAgain$Ratio;", .fieldLink RX3 19 "AgainAgain$Plans" "bottoms" "[J", .methodLink RX3 73 yX4_part, .instanceMethod yX4_part, .selects RX4 yX4_part yX4_part, .initialized RX4, .code yX4_part cX4_part 2 (some .long), .fieldLink RX4 7 "AgainAgain$Ratio" "top" "J", .fieldLink RX4 13 "AgainAgain$Ratio" "bottom" "J"] ++ wsX30 ++ wsX40)
def wsJ13_compare_74951 : List Cond := .code yJ13_compare_74951 cJ13_compare_74951 4 (some .int) :: ([])
def wsX4_compareWith : List Cond := .code yX4_compareWith cX4_compareWith 5 (some .int) :: ([.fieldLink RX4 7 "AgainAgain$Ratio" "top" "J", .fieldLink RX4 13 "AgainAgain$Ratio" "bottom" "J", .methodLink RX4 26 yJ13_compare_74951, .static yJ13_compare_74951, .initialized RJ13, .code yJ13_compare_74951 cJ13_compare_74951 4 (some .int)] ++ wsX40)
def wsX3_bestCompared : List Cond := .code yX3_bestCompared cX3_bestCompared 4 (some .int) :: ([.fieldLink RX3 15 "AgainAgain$Plans" "tops" "[J", .fieldLink RX3 19 "AgainAgain$Plans" "bottoms" "[J", .methodLink RX3 54 yX3_slotOf, .static yX3_slotOf, .initialized RX3, .code yX3_slotOf cX3_slotOf 2 (some .int), .methodLink RX3 80 yX4_compareWith, .instanceMethod yX4_compareWith, .selects RX4 yX4_compareWith yX4_compareWith, .initialized RX4, .code yX4_compareWith cX4_compareWith 5 (some .int), .fieldLink RX4 7 "AgainAgain$Ratio" "top" "J", .fieldLink RX4 13 "AgainAgain$Ratio" "bottom" "J", .methodLink RX4 26 yJ13_compare_74951, .static yJ13_compare_74951, .initialized RJ13, .code yJ13_compare_74951 cJ13_compare_74951 4 (some .int)] ++ wsX30 ++ wsX40)
def wsX3_learn_r1 : List Cond := [Cond.fieldLink RX3 32 "AgainAgain$Plans" "tried" "LAgainAgain$Ratio;", Cond.methodLink RX3 50 yX3_weigh, Cond.instanceMethod yX3_weigh, Cond.selects RX3 yX3_weigh yX3_weigh, Cond.initialized RX3, Cond.code yX3_weigh cX3_weigh 7 none, Cond.fieldLink RX3 25 "AgainAgain$Plans" "walk" "LAgainAgain$Walk;", Cond.methodLink RX3 38 yX6_takePlan, Cond.instanceMethod yX6_takePlan, Cond.selects RX6 yX6_takePlan yX6_takePlan, Cond.initialized RX6, Cond.code yX6_takePlan cX6_takePlan 8 none, Cond.fieldLink RX6 11 "AgainAgain$Walk" "nexts" "[I", Cond.fieldLink RX6 15 "AgainAgain$Walk" "gains" "[I", Cond.methodLink RX6 31 yX2_statesOf, Cond.instanceMethod yX2_statesOf, Cond.selects RX2 yX2_statesOf yX2_statesOf, Cond.initialized RX2, Cond.code yX2_statesOf cX2_statesOf 2 (some .int), Cond.fieldLink RX2 9 "AgainAgain$Machines" "sizes" "[I", Cond.methodLink RX6 42 yX2_nextOf, Cond.instanceMethod yX2_nextOf, Cond.selects RX2 yX2_nextOf yX2_nextOf, Cond.code yX2_nextOf cX2_nextOf 4 (some .int)]
def wsX3_learn_r2 : List Cond := [Cond.fieldLink RX2 18 "AgainAgain$Machines" "nexts" "[I", Cond.methodLink RX6 35 yX2_actionOf, Cond.instanceMethod yX2_actionOf, Cond.selects RX2 yX2_actionOf yX2_actionOf, Cond.code yX2_actionOf cX2_actionOf 3 (some .int), Cond.fieldLink RX2 13 "AgainAgain$Machines" "actions" "[I", Cond.methodLink RX6 46 yX0_gain, Cond.instanceMethod yX0_gain, Cond.selects RX0 yX0_gain yX0_gain, Cond.initialized RX0, Cond.code yX0_gain cX0_gain 3 (some .int), Cond.fieldLink RX0 9 "AgainAgain$Game" "gains" "[I", Cond.methodLink RX3 42 yX6_startAt, Cond.instanceMethod yX6_startAt, Cond.selects RX6 yX6_startAt yX6_startAt, Cond.code yX6_startAt cX6_startAt 4 none, Cond.fieldLink RX6 18 "AgainAgain$Walk" "firstMet" "[I", Cond.fieldLink RX6 21 "AgainAgain$Walk" "path" "[I", Cond.fieldLink RX6 24 "AgainAgain$Walk" "tail" "I", Cond.fieldLink RX6 28 "AgainAgain$Walk" "ring" "I", Cond.methodLink RX6 51 yJ7_fill_53178, Cond.static yJ7_fill_53178, Cond.initialized RJ7, Cond.code yJ7_fill_53178 cJ7_fill_53178 4 none]
def wsX3_learn_r3 : List Cond := [Cond.methodLink RX3 46 yX6_worthInto, Cond.instanceMethod yX6_worthInto, Cond.selects RX6 yX6_worthInto yX6_worthInto, Cond.code yX6_worthInto cX6_worthInto 11 none, Cond.methodLink RX6 67 yX0_rateOver, Cond.instanceMethod yX0_rateOver, Cond.selects RX0 yX0_rateOver yX0_rateOver, Cond.code yX0_rateOver cX0_rateOver 1 (some .long), Cond.fieldLink RX0 13 "AgainAgain$Game" "over" "J", Cond.methodLink RX6 71 yX0_rateUnder, Cond.instanceMethod yX0_rateUnder, Cond.selects RX0 yX0_rateUnder yX0_rateUnder, Cond.code yX0_rateUnder cX0_rateUnder 1 (some .long), Cond.fieldLink RX0 19 "AgainAgain$Game" "under" "J", Cond.methodLink RX6 74 yX6_power, Cond.static yX6_power, Cond.code yX6_power cX6_power 6 (some .long), Cond.methodLink RX6 78 yX6_weighedAlong, Cond.instanceMethod yX6_weighedAlong, Cond.selects RX6 yX6_weighedAlong yX6_weighedAlong, Cond.code yX6_weighedAlong cX6_weighedAlong 12 (some .long), Cond.methodLink RX6 82 yX4_become, Cond.instanceMethod yX4_become, Cond.selects RX4 yX4_become yX4_become]
def wsX3_learn_r4 : List Cond := [Cond.initialized RX4, Cond.code yX4_become cX4_become 7 none, Cond.methodLink RX4 16 Lib.MathLoose.abs_long.x, Cond.static Lib.MathLoose.abs_long.x, Cond.initialized "java/lang/Math", Cond.code Lib.MathLoose.abs_long.x Lib.MathLoose.abs_long.code 2 (some .long), Cond.fieldLink RX4 7 "AgainAgain$Ratio" "top" "J", Cond.fieldLink RX4 13 "AgainAgain$Ratio" "bottom" "J", Cond.methodLink RX4 22 yX4_greatestShared, Cond.static yX4_greatestShared, Cond.code yX4_greatestShared cX4_greatestShared 11 (some .long), Cond.methodLink RX3 54 yX3_slotOf, Cond.static yX3_slotOf, Cond.code yX3_slotOf cX3_slotOf 2 (some .int), Cond.methodLink RX3 58 yX3_keep, Cond.instanceMethod yX3_keep, Cond.selects RX3 yX3_keep yX3_keep, Cond.code yX3_keep cX3_keep 3 none, Cond.fieldLink RX3 11 "AgainAgain$Plans" "plans" "[I", Cond.fieldLink RX3 15 "AgainAgain$Plans" "tops" "[J", Cond.fieldLink RX3 19 "AgainAgain$Plans" "bottoms" "[J", Cond.methodLink RX3 73 yX4_part, Cond.instanceMethod yX4_part, Cond.selects RX4 yX4_part yX4_part]
def wsX3_learn_r5 : List Cond := [Cond.code yX4_part cX4_part 2 (some .long), Cond.methodLink RX3 62 yX2_statesOf, Cond.methodLink RX3 66 yX3_plansAgainst, Cond.static yX3_plansAgainst, Cond.code yX3_plansAgainst cX3_plansAgainst 3 (some .int), Cond.methodLink RX3 69 yX3_bestCompared, Cond.instanceMethod yX3_bestCompared, Cond.selects RX3 yX3_bestCompared yX3_bestCompared, Cond.code yX3_bestCompared cX3_bestCompared 4 (some .int), Cond.methodLink RX3 80 yX4_compareWith, Cond.instanceMethod yX4_compareWith, Cond.selects RX4 yX4_compareWith yX4_compareWith, Cond.code yX4_compareWith cX4_compareWith 5 (some .int), Cond.methodLink RX4 26 yJ13_compare_74951, Cond.static yJ13_compare_74951, Cond.initialized RJ13, Cond.code yJ13_compare_74951 cJ13_compare_74951 4 (some .int)]
def wsX3_learn : List Cond := .code yX3_learn cX3_learn 6 none :: ((wsX3_learn_r1 ++ (wsX3_learn_r2 ++ (wsX3_learn_r3 ++ (wsX3_learn_r4 ++ wsX3_learn_r5)))) ++ wsX30 ++ wsX60 ++ wsX20 ++ wsX00 ++ wsX40)
def wsX3_learnAll_r1 : List Cond := [Cond.methodLink RX3 62 yX2_statesOf, Cond.instanceMethod yX2_statesOf, Cond.selects RX2 yX2_statesOf yX2_statesOf, Cond.initialized RX2, Cond.code yX2_statesOf cX2_statesOf 2 (some .int), Cond.fieldLink RX2 9 "AgainAgain$Machines" "sizes" "[I", Cond.methodLink RX3 77 yX3_learn, Cond.instanceMethod yX3_learn, Cond.selects RX3 yX3_learn yX3_learn, Cond.initialized RX3, Cond.code yX3_learn cX3_learn 6 none, Cond.fieldLink RX3 32 "AgainAgain$Plans" "tried" "LAgainAgain$Ratio;", Cond.methodLink RX3 50 yX3_weigh, Cond.instanceMethod yX3_weigh, Cond.selects RX3 yX3_weigh yX3_weigh, Cond.code yX3_weigh cX3_weigh 7 none, Cond.fieldLink RX3 25 "AgainAgain$Plans" "walk" "LAgainAgain$Walk;", Cond.methodLink RX3 38 yX6_takePlan, Cond.instanceMethod yX6_takePlan, Cond.selects RX6 yX6_takePlan yX6_takePlan, Cond.initialized RX6, Cond.code yX6_takePlan cX6_takePlan 8 none, Cond.fieldLink RX6 11 "AgainAgain$Walk" "nexts" "[I", Cond.fieldLink RX6 15 "AgainAgain$Walk" "gains" "[I"]
def wsX3_learnAll_r2 : List Cond := [Cond.methodLink RX6 31 yX2_statesOf, Cond.methodLink RX6 42 yX2_nextOf, Cond.instanceMethod yX2_nextOf, Cond.selects RX2 yX2_nextOf yX2_nextOf, Cond.code yX2_nextOf cX2_nextOf 4 (some .int), Cond.fieldLink RX2 18 "AgainAgain$Machines" "nexts" "[I", Cond.methodLink RX6 35 yX2_actionOf, Cond.instanceMethod yX2_actionOf, Cond.selects RX2 yX2_actionOf yX2_actionOf, Cond.code yX2_actionOf cX2_actionOf 3 (some .int), Cond.fieldLink RX2 13 "AgainAgain$Machines" "actions" "[I", Cond.methodLink RX6 46 yX0_gain, Cond.instanceMethod yX0_gain, Cond.selects RX0 yX0_gain yX0_gain, Cond.initialized RX0, Cond.code yX0_gain cX0_gain 3 (some .int), Cond.fieldLink RX0 9 "AgainAgain$Game" "gains" "[I", Cond.methodLink RX3 42 yX6_startAt, Cond.instanceMethod yX6_startAt, Cond.selects RX6 yX6_startAt yX6_startAt, Cond.code yX6_startAt cX6_startAt 4 none, Cond.fieldLink RX6 18 "AgainAgain$Walk" "firstMet" "[I", Cond.fieldLink RX6 21 "AgainAgain$Walk" "path" "[I", Cond.fieldLink RX6 24 "AgainAgain$Walk" "tail" "I"]
def wsX3_learnAll_r3 : List Cond := [Cond.fieldLink RX6 28 "AgainAgain$Walk" "ring" "I", Cond.methodLink RX6 51 yJ7_fill_53178, Cond.static yJ7_fill_53178, Cond.initialized RJ7, Cond.code yJ7_fill_53178 cJ7_fill_53178 4 none, Cond.methodLink RX3 46 yX6_worthInto, Cond.instanceMethod yX6_worthInto, Cond.selects RX6 yX6_worthInto yX6_worthInto, Cond.code yX6_worthInto cX6_worthInto 11 none, Cond.methodLink RX6 67 yX0_rateOver, Cond.instanceMethod yX0_rateOver, Cond.selects RX0 yX0_rateOver yX0_rateOver, Cond.code yX0_rateOver cX0_rateOver 1 (some .long), Cond.fieldLink RX0 13 "AgainAgain$Game" "over" "J", Cond.methodLink RX6 71 yX0_rateUnder, Cond.instanceMethod yX0_rateUnder, Cond.selects RX0 yX0_rateUnder yX0_rateUnder, Cond.code yX0_rateUnder cX0_rateUnder 1 (some .long), Cond.fieldLink RX0 19 "AgainAgain$Game" "under" "J", Cond.methodLink RX6 74 yX6_power, Cond.static yX6_power, Cond.code yX6_power cX6_power 6 (some .long), Cond.methodLink RX6 78 yX6_weighedAlong, Cond.instanceMethod yX6_weighedAlong]
def wsX3_learnAll_r4 : List Cond := [Cond.selects RX6 yX6_weighedAlong yX6_weighedAlong, Cond.code yX6_weighedAlong cX6_weighedAlong 12 (some .long), Cond.methodLink RX6 82 yX4_become, Cond.instanceMethod yX4_become, Cond.selects RX4 yX4_become yX4_become, Cond.initialized RX4, Cond.code yX4_become cX4_become 7 none, Cond.methodLink RX4 16 Lib.MathLoose.abs_long.x, Cond.static Lib.MathLoose.abs_long.x, Cond.initialized "java/lang/Math", Cond.code Lib.MathLoose.abs_long.x Lib.MathLoose.abs_long.code 2 (some .long), Cond.fieldLink RX4 7 "AgainAgain$Ratio" "top" "J", Cond.fieldLink RX4 13 "AgainAgain$Ratio" "bottom" "J", Cond.methodLink RX4 22 yX4_greatestShared, Cond.static yX4_greatestShared, Cond.code yX4_greatestShared cX4_greatestShared 11 (some .long), Cond.methodLink RX3 54 yX3_slotOf, Cond.static yX3_slotOf, Cond.code yX3_slotOf cX3_slotOf 2 (some .int), Cond.methodLink RX3 58 yX3_keep, Cond.instanceMethod yX3_keep, Cond.selects RX3 yX3_keep yX3_keep, Cond.code yX3_keep cX3_keep 3 none, Cond.fieldLink RX3 11 "AgainAgain$Plans" "plans" "[I"]
def wsX3_learnAll_r5 : List Cond := [Cond.fieldLink RX3 15 "AgainAgain$Plans" "tops" "[J", Cond.fieldLink RX3 19 "AgainAgain$Plans" "bottoms" "[J", Cond.methodLink RX3 73 yX4_part, Cond.instanceMethod yX4_part, Cond.selects RX4 yX4_part yX4_part, Cond.code yX4_part cX4_part 2 (some .long), Cond.methodLink RX3 66 yX3_plansAgainst, Cond.static yX3_plansAgainst, Cond.code yX3_plansAgainst cX3_plansAgainst 3 (some .int), Cond.methodLink RX3 69 yX3_bestCompared, Cond.instanceMethod yX3_bestCompared, Cond.selects RX3 yX3_bestCompared yX3_bestCompared, Cond.code yX3_bestCompared cX3_bestCompared 4 (some .int), Cond.methodLink RX3 80 yX4_compareWith, Cond.instanceMethod yX4_compareWith, Cond.selects RX4 yX4_compareWith yX4_compareWith, Cond.code yX4_compareWith cX4_compareWith 5 (some .int), Cond.methodLink RX4 26 yJ13_compare_74951, Cond.static yJ13_compare_74951, Cond.initialized RJ13, Cond.code yJ13_compare_74951 cJ13_compare_74951 4 (some .int)]
def wsX3_learnAll : List Cond := .code yX3_learnAll cX3_learnAll 5 none :: ((wsX3_learnAll_r1 ++ (wsX3_learnAll_r2 ++ (wsX3_learnAll_r3 ++ (wsX3_learnAll_r4 ++ wsX3_learnAll_r5)))) ++ wsX20 ++ wsX30 ++ wsX60 ++ wsX00 ++ wsX40)
def wsX3_bestPlan : List Cond := .code yX3_bestPlan cX3_bestPlan 3 (some .int) :: ([.fieldLink RX3 11 "AgainAgain$Plans" "plans" "[I", .methodLink RX3 54 yX3_slotOf, .static yX3_slotOf, .initialized RX3, .code yX3_slotOf cX3_slotOf 2 (some .int)] ++ wsX30)
def wsX3_bestPart : List Cond := .code yX3_bestPart cX3_bestPart 4 (some .long) :: ([.fieldLink RX3 15 "AgainAgain$Plans" "tops" "[J", .fieldLink RX3 19 "AgainAgain$Plans" "bottoms" "[J", .methodLink RX3 54 yX3_slotOf, .static yX3_slotOf, .initialized RX3, .code yX3_slotOf cX3_slotOf 2 (some .int)] ++ wsX30)
def wsX5_init : List Cond := .code yX5_init cX5_init 1 none :: ([.methodLink RX5 1 objectInit, .instanceMethod objectInit, .code objectInit ⟨#[0xb1]⟩ 1 none, .arrayClass .int, .fieldLink RX5 9 "AgainAgain$Sheets" "lanes" "[I", .fieldLink RX5 13 "AgainAgain$Sheets" "sizes" "[I", .fieldLink RX5 16 "AgainAgain$Sheets" "cells" "[I", .methodLink RX5 19 yJ7_fill_53178, .static yJ7_fill_53178, .initialized RJ7, .code yJ7_fill_53178 cJ7_fill_53178 4 none] ++ wsX50)
def wsX5_isSheet : List Cond := .code yX5_isSheet cX5_isSheet 1 (some .boolean) :: ([])
def wsX5_isLane : List Cond := .code yX5_isLane cX5_isLane 1 (some .boolean) :: ([])
def wsX5_isThere : List Cond := .code yX5_isThere cX5_isThere 2 (some .boolean) :: ([.fieldLink RX5 9 "AgainAgain$Sheets" "lanes" "[I"] ++ wsX50)
def wsX5_laneOf : List Cond := .code yX5_laneOf cX5_laneOf 2 (some .int) :: ([.fieldLink RX5 9 "AgainAgain$Sheets" "lanes" "[I"] ++ wsX50)
def wsX5_cellsOf : List Cond := .code yX5_cellsOf cX5_cellsOf 2 (some .int) :: ([.fieldLink RX5 13 "AgainAgain$Sheets" "sizes" "[I"] ++ wsX50)
def wsJ7_rangeCheck_23922 : List Cond := .code yJ7_rangeCheck_23922 cJ7_rangeCheck_23922 3 none :: ([])
def wsJ7_fill_fda19 : List Cond := .code yJ7_fill_fda19 cJ7_fill_fda19 5 none :: ([.methodLink RJ7 13 yJ7_rangeCheck_23922, .static yJ7_rangeCheck_23922, .initialized RJ7, .code yJ7_rangeCheck_23922 cJ7_rangeCheck_23922 3 none])
def wsX5_layOut : List Cond := .code yX5_layOut cX5_layOut 4 none :: ([.fieldLink RX5 9 "AgainAgain$Sheets" "lanes" "[I", .fieldLink RX5 13 "AgainAgain$Sheets" "sizes" "[I", .fieldLink RX5 16 "AgainAgain$Sheets" "cells" "[I", .methodLink RX5 25 yJ7_fill_fda19, .static yJ7_fill_fda19, .initialized RJ7, .code yJ7_fill_fda19 cJ7_fill_fda19 5 none, .methodLink RJ7 13 yJ7_rangeCheck_23922, .static yJ7_rangeCheck_23922, .code yJ7_rangeCheck_23922 cJ7_rangeCheck_23922 3 none] ++ wsX50)
def wsX5_hasCell : List Cond := .code yX5_hasCell cX5_hasCell 3 (some .boolean) :: ([.fieldLink RX5 13 "AgainAgain$Sheets" "sizes" "[I"] ++ wsX50)
def wsX5_cell : List Cond := .code yX5_cell cX5_cell 3 (some .int) :: ([.fieldLink RX5 16 "AgainAgain$Sheets" "cells" "[I"] ++ wsX50)
def wsX5_lowestBits : List Cond := .code yX5_lowestBits cX5_lowestBits 2 (some .int) :: ([])
def wsX5_setCell : List Cond := .code yX5_setCell cX5_setCell 4 none :: ([.fieldLink RX5 16 "AgainAgain$Sheets" "cells" "[I", .fieldLink RX5 9 "AgainAgain$Sheets" "lanes" "[I", .methodLink RX5 28 yX5_lowestBits, .static yX5_lowestBits, .initialized RX5, .code yX5_lowestBits cX5_lowestBits 2 (some .int)] ++ wsX50)
def wsX6_takeMatch_r1 : List Cond := [Cond.fieldLink RX6 11 "AgainAgain$Walk" "nexts" "[I", Cond.fieldLink RX6 15 "AgainAgain$Walk" "gains" "[I", Cond.methodLink RX6 31 yX2_statesOf, Cond.instanceMethod yX2_statesOf, Cond.selects RX2 yX2_statesOf yX2_statesOf, Cond.initialized RX2, Cond.code yX2_statesOf cX2_statesOf 2 (some .int), Cond.fieldLink RX2 9 "AgainAgain$Machines" "sizes" "[I", Cond.methodLink RX6 35 yX2_actionOf, Cond.instanceMethod yX2_actionOf, Cond.selects RX2 yX2_actionOf yX2_actionOf, Cond.code yX2_actionOf cX2_actionOf 3 (some .int), Cond.fieldLink RX2 13 "AgainAgain$Machines" "actions" "[I", Cond.methodLink RX6 39 yX6_placeOf, Cond.static yX6_placeOf, Cond.initialized RX6, Cond.code yX6_placeOf cX6_placeOf 2 (some .int), Cond.methodLink RX6 42 yX2_nextOf, Cond.instanceMethod yX2_nextOf, Cond.selects RX2 yX2_nextOf yX2_nextOf, Cond.code yX2_nextOf cX2_nextOf 4 (some .int), Cond.fieldLink RX2 18 "AgainAgain$Machines" "nexts" "[I", Cond.methodLink RX6 46 yX0_gain, Cond.instanceMethod yX0_gain]
def wsX6_takeMatch_r2 : List Cond := [Cond.selects RX0 yX0_gain yX0_gain, Cond.initialized RX0, Cond.code yX0_gain cX0_gain 3 (some .int), Cond.fieldLink RX0 9 "AgainAgain$Game" "gains" "[I"]
def wsX6_takeMatch : List Cond := .code yX6_takeMatch cX6_takeMatch 9 none :: ((wsX6_takeMatch_r1 ++ wsX6_takeMatch_r2) ++ wsX60 ++ wsX20 ++ wsX00)
def wsX6_tail : List Cond := .code yX6_tail cX6_tail 1 (some .int) :: ([.fieldLink RX6 24 "AgainAgain$Walk" "tail" "I"] ++ wsX60)
def wsX6_ring : List Cond := .code yX6_ring cX6_ring 1 (some .int) :: ([.fieldLink RX6 28 "AgainAgain$Walk" "ring" "I"] ++ wsX60)
def wsX6_placeIn : List Cond := .code yX6_placeIn cX6_placeIn 2 (some .int) :: ([.fieldLink RX6 21 "AgainAgain$Walk" "path" "[I", .fieldLink RX6 24 "AgainAgain$Walk" "tail" "I", .fieldLink RX6 28 "AgainAgain$Walk" "ring" "I"] ++ wsX60)
def wsX6_gainsAlong : List Cond := .code yX6_gainsAlong cX6_gainsAlong 5 (some .int) :: ([.fieldLink RX6 15 "AgainAgain$Walk" "gains" "[I", .fieldLink RX6 21 "AgainAgain$Walk" "path" "[I"] ++ wsX60)
def wsX6_tailGains : List Cond := .code yX6_tailGains cX6_tailGains 1 (some .int) :: ([.fieldLink RX6 24 "AgainAgain$Walk" "tail" "I", .methodLink RX6 57 yX6_gainsAlong, .instanceMethod yX6_gainsAlong, .selects RX6 yX6_gainsAlong yX6_gainsAlong, .initialized RX6, .code yX6_gainsAlong cX6_gainsAlong 5 (some .int), .fieldLink RX6 15 "AgainAgain$Walk" "gains" "[I", .fieldLink RX6 21 "AgainAgain$Walk" "path" "[I"] ++ wsX60)
def wsX6_ringGains : List Cond := .code yX6_ringGains cX6_ringGains 1 (some .int) :: ([.fieldLink RX6 24 "AgainAgain$Walk" "tail" "I", .fieldLink RX6 28 "AgainAgain$Walk" "ring" "I", .methodLink RX6 57 yX6_gainsAlong, .instanceMethod yX6_gainsAlong, .selects RX6 yX6_gainsAlong yX6_gainsAlong, .initialized RX6, .code yX6_gainsAlong cX6_gainsAlong 5 (some .int), .fieldLink RX6 15 "AgainAgain$Walk" "gains" "[I", .fieldLink RX6 21 "AgainAgain$Walk" "path" "[I"] ++ wsX60)
def wsX6_gainsOfFirst : List Cond := .code yX6_gainsOfFirst cX6_gainsOfFirst 3 (some .int) :: ([.fieldLink RX6 24 "AgainAgain$Walk" "tail" "I", .fieldLink RX6 28 "AgainAgain$Walk" "ring" "I", .methodLink RX6 57 yX6_gainsAlong, .instanceMethod yX6_gainsAlong, .selects RX6 yX6_gainsAlong yX6_gainsAlong, .initialized RX6, .code yX6_gainsAlong cX6_gainsAlong 5 (some .int), .fieldLink RX6 15 "AgainAgain$Walk" "gains" "[I", .fieldLink RX6 21 "AgainAgain$Walk" "path" "[I", .methodLink RX6 60 yX6_tailGains, .instanceMethod yX6_tailGains, .selects RX6 yX6_tailGains yX6_tailGains, .code yX6_tailGains cX6_tailGains 1 (some .int), .methodLink RX6 64 yX6_ringGains, .instanceMethod yX6_ringGains, .selects RX6 yX6_ringGains yX6_ringGains, .code yX6_ringGains cX6_ringGains 1 (some .int)] ++ wsX60)
def wsX6_meeting : List Cond := .code yX6_meeting cX6_meeting 6 (some .int) :: ([.fieldLink RX6 11 "AgainAgain$Walk" "nexts" "[I"] ++ wsX60)
def wsX7_init_r1 : List Cond := [Cond.methodLink RX7 3 objectInit, Cond.instanceMethod objectInit, Cond.code objectInit ⟨#[0xb1]⟩ 1 none, Cond.classLink RX7 1 RX0, Cond.instantiable RX0 3, Cond.initialized RX0, Cond.fieldLink RX7 10 "AgainAgain" "game" "LAgainAgain$Game;", Cond.classLink RX7 16 RX2, Cond.instantiable RX2 4, Cond.initialized RX2, Cond.fieldLink RX7 19 "AgainAgain" "machines" "LAgainAgain$Machines;", Cond.classLink RX7 23 RX5, Cond.instantiable RX5 3, Cond.initialized RX5, Cond.fieldLink RX7 26 "AgainAgain" "sheets" "LAgainAgain$Sheets;", Cond.classLink RX7 30 RX1, Cond.instantiable RX1 1, Cond.initialized RX1, Cond.fieldLink RX7 33 "AgainAgain" "likeness" "LAgainAgain$Likeness;", Cond.classLink RX7 37 RX3, Cond.instantiable RX3 5, Cond.initialized RX3, Cond.fieldLink RX7 40 "AgainAgain" "plans" "LAgainAgain$Plans;", Cond.classLink RX7 44 RX6]
def wsX7_init_r2 : List Cond := [Cond.instantiable RX6 6, Cond.initialized RX6, Cond.fieldLink RX7 47 "AgainAgain" "walk" "LAgainAgain$Walk;", Cond.fieldLink RX7 51 "AgainAgain" "back" "LAgainAgain$Walk;", Cond.classLink RX7 54 RX4, Cond.instantiable RX4 2, Cond.initialized RX4, Cond.fieldLink RX7 57 "AgainAgain" "ratio" "LAgainAgain$Ratio;", Cond.fieldLink RX7 61 "AgainAgain" "other" "LAgainAgain$Ratio;", Cond.arrayClass .int, Cond.fieldLink RX7 64 "AgainAgain" "scores" "[I", Cond.instanceMethod yX0_init, Cond.code yX0_init cX0_init 1 none, Cond.methodLink RX0 1 objectInit, Cond.fieldLink RX0 9 "AgainAgain$Game" "gains" "[I", Cond.fieldLink RX0 13 "AgainAgain$Game" "over" "J", Cond.constantLong RX0 17 (2), Cond.fieldLink RX0 19 "AgainAgain$Game" "under" "J", Cond.instanceMethod yX2_init, Cond.code yX2_init cX2_init 1 none, Cond.methodLink RX2 1 objectInit, Cond.fieldLink RX2 9 "AgainAgain$Machines" "sizes" "[I", Cond.fieldLink RX2 13 "AgainAgain$Machines" "actions" "[I", Cond.fieldLink RX2 18 "AgainAgain$Machines" "nexts" "[I"]
def wsX7_init_r3 : List Cond := [Cond.fieldLink RX2 21 "AgainAgain$Machines" "many" "I", Cond.methodLink RX7 25 yX5_init, Cond.instanceMethod yX5_init, Cond.code yX5_init cX5_init 1 none, Cond.methodLink RX5 1 objectInit, Cond.fieldLink RX5 9 "AgainAgain$Sheets" "lanes" "[I", Cond.fieldLink RX5 13 "AgainAgain$Sheets" "sizes" "[I", Cond.fieldLink RX5 16 "AgainAgain$Sheets" "cells" "[I", Cond.methodLink RX5 19 yJ7_fill_53178, Cond.static yJ7_fill_53178, Cond.initialized RJ7, Cond.code yJ7_fill_53178 cJ7_fill_53178 4 none, Cond.instanceMethod yX1_init, Cond.code yX1_init cX1_init 1 none, Cond.methodLink RX1 1 objectInit, Cond.fieldLink RX1 9 "AgainAgain$Likeness" "pairs" "[I", Cond.instanceMethod yX3_init, Cond.code yX3_init cX3_init 1 none, Cond.methodLink RX3 3 objectInit, Cond.fieldLink RX3 11 "AgainAgain$Plans" "plans" "[I", Cond.arrayClass .long, Cond.fieldLink RX3 15 "AgainAgain$Plans" "tops" "[J", Cond.fieldLink RX3 19 "AgainAgain$Plans" "bottoms" "[J", Cond.classLink RX3 22 RX6]
def wsX7_init_r4 : List Cond := [Cond.fieldLink RX3 25 "AgainAgain$Plans" "walk" "LAgainAgain$Walk;", Cond.classLink RX3 29 RX4, Cond.fieldLink RX3 32 "AgainAgain$Plans" "tried" "LAgainAgain$Ratio;", Cond.instanceMethod yX6_init, Cond.code yX6_init cX6_init 1 none, Cond.methodLink RX6 5 objectInit, Cond.fieldLink RX6 11 "AgainAgain$Walk" "nexts" "[I", Cond.fieldLink RX6 15 "AgainAgain$Walk" "gains" "[I", Cond.fieldLink RX6 18 "AgainAgain$Walk" "firstMet" "[I", Cond.fieldLink RX6 21 "AgainAgain$Walk" "path" "[I", Cond.fieldLink RX6 24 "AgainAgain$Walk" "tail" "I", Cond.fieldLink RX6 28 "AgainAgain$Walk" "ring" "I", Cond.instanceMethod yX4_init, Cond.code yX4_init cX4_init 1 none, Cond.methodLink RX4 1 objectInit, Cond.fieldLink RX4 7 "AgainAgain$Ratio" "top" "J", Cond.fieldLink RX4 13 "AgainAgain$Ratio" "bottom" "J"]
def wsX7_init : List Cond := .code yX7_init cX7_init 1 none :: ((wsX7_init_r1 ++ (wsX7_init_r2 ++ (wsX7_init_r3 ++ wsX7_init_r4))) ++ wsX00 ++ wsX70 ++ wsX20 ++ wsX50 ++ wsX10 ++ wsX30 ++ wsX60 ++ wsX40)
def wsX7_within : List Cond := .code yX7_within cX7_within 3 (some .boolean) :: ([])
def wsX7_isAction : List Cond := .code yX7_isAction cX7_isAction 1 (some .boolean) :: ([.methodLink RX7 72 yX7_within, .static yX7_within, .initialized RX7, .code yX7_within cX7_within 3 (some .boolean)])
def wsX7_pay : List Cond := .code yX7_pay cX7_pay 4 (some .int) :: ([.fieldLink RX7 10 "AgainAgain" "game" "LAgainAgain$Game;", .methodLink RX7 68 yX7_isAction, .static yX7_isAction, .initialized RX7, .code yX7_isAction cX7_isAction 1 (some .boolean), .methodLink RX7 72 yX7_within, .static yX7_within, .code yX7_within cX7_within 3 (some .boolean), .methodLink RX7 76 yX0_setGain, .instanceMethod yX0_setGain, .selects RX0 yX0_setGain yX0_setGain, .initialized RX0, .code yX0_setGain cX0_setGain 4 none, .fieldLink RX0 9 "AgainAgain$Game" "gains" "[I"] ++ wsX70 ++ wsX00)
def wsX7_discount : List Cond := .code yX7_discount cX7_discount 3 (some .int) :: ([.fieldLink RX7 10 "AgainAgain" "game" "LAgainAgain$Game;", .methodLink RX7 72 yX7_within, .static yX7_within, .initialized RX7, .code yX7_within cX7_within 3 (some .boolean), .methodLink RX7 80 yX0_setRate, .instanceMethod yX0_setRate, .selects RX0 yX0_setRate yX0_setRate, .initialized RX0, .code yX0_setRate cX0_setRate 3 none, .fieldLink RX0 13 "AgainAgain$Game" "over" "J", .fieldLink RX0 19 "AgainAgain$Game" "under" "J"] ++ wsX70 ++ wsX00)
def wsX7_machine_r1 : List Cond := [Cond.fieldLink RX7 19 "AgainAgain" "machines" "LAgainAgain$Machines;", Cond.methodLink RX7 72 yX7_within, Cond.static yX7_within, Cond.initialized RX7, Cond.code yX7_within cX7_within 3 (some .boolean), Cond.methodLink RX7 84 yX2_isFull, Cond.instanceMethod yX2_isFull, Cond.selects RX2 yX2_isFull yX2_isFull, Cond.initialized RX2, Cond.code yX2_isFull cX2_isFull 1 (some .boolean), Cond.fieldLink RX2 21 "AgainAgain$Machines" "many" "I", Cond.methodLink RX7 88 yX2_add, Cond.instanceMethod yX2_add, Cond.selects RX2 yX2_add yX2_add, Cond.code yX2_add cX2_add 5 (some .int), Cond.fieldLink RX2 9 "AgainAgain$Machines" "sizes" "[I", Cond.methodLink RX2 29 yX2_setAction, Cond.instanceMethod yX2_setAction, Cond.selects RX2 yX2_setAction yX2_setAction, Cond.code yX2_setAction cX2_setAction 4 none, Cond.fieldLink RX2 13 "AgainAgain$Machines" "actions" "[I", Cond.methodLink RX2 33 yX2_setNext, Cond.instanceMethod yX2_setNext, Cond.selects RX2 yX2_setNext yX2_setNext]
def wsX7_machine_r2 : List Cond := [Cond.code yX2_setNext cX2_setNext 5 none, Cond.fieldLink RX2 18 "AgainAgain$Machines" "nexts" "[I"]
def wsX7_machine : List Cond := .code yX7_machine cX7_machine 2 (some .int) :: ((wsX7_machine_r1 ++ wsX7_machine_r2) ++ wsX70 ++ wsX20)
def wsX7_does : List Cond := .code yX7_does cX7_does 4 (some .int) :: ([.fieldLink RX7 19 "AgainAgain" "machines" "LAgainAgain$Machines;", .methodLink RX7 92 yX2_hasState, .instanceMethod yX2_hasState, .selects RX2 yX2_hasState yX2_hasState, .initialized RX2, .code yX2_hasState cX2_hasState 3 (some .boolean), .fieldLink RX2 9 "AgainAgain$Machines" "sizes" "[I", .methodLink RX2 25 yX2_has, .instanceMethod yX2_has, .selects RX2 yX2_has yX2_has, .code yX2_has cX2_has 2 (some .boolean), .fieldLink RX2 21 "AgainAgain$Machines" "many" "I", .methodLink RX7 68 yX7_isAction, .static yX7_isAction, .initialized RX7, .code yX7_isAction cX7_isAction 1 (some .boolean), .methodLink RX7 72 yX7_within, .static yX7_within, .code yX7_within cX7_within 3 (some .boolean), .methodLink RX7 96 yX2_setAction, .instanceMethod yX2_setAction, .selects RX2 yX2_setAction yX2_setAction, .code yX2_setAction cX2_setAction 4 none, .fieldLink RX2 13 "AgainAgain$Machines" "actions" "[I"] ++ wsX70 ++ wsX20)
def wsX7_goes : List Cond := .code yX7_goes cX7_goes 5 (some .int) :: ([.fieldLink RX7 19 "AgainAgain" "machines" "LAgainAgain$Machines;", .methodLink RX7 92 yX2_hasState, .instanceMethod yX2_hasState, .selects RX2 yX2_hasState yX2_hasState, .initialized RX2, .code yX2_hasState cX2_hasState 3 (some .boolean), .fieldLink RX2 9 "AgainAgain$Machines" "sizes" "[I", .methodLink RX2 25 yX2_has, .instanceMethod yX2_has, .selects RX2 yX2_has yX2_has, .code yX2_has cX2_has 2 (some .boolean), .fieldLink RX2 21 "AgainAgain$Machines" "many" "I", .methodLink RX7 68 yX7_isAction, .static yX7_isAction, .initialized RX7, .code yX7_isAction cX7_isAction 1 (some .boolean), .methodLink RX7 72 yX7_within, .static yX7_within, .code yX7_within cX7_within 3 (some .boolean), .methodLink RX7 99 yX2_setNext, .instanceMethod yX2_setNext, .selects RX2 yX2_setNext yX2_setNext, .code yX2_setNext cX2_setNext 5 none, .fieldLink RX2 18 "AgainAgain$Machines" "nexts" "[I"] ++ wsX70 ++ wsX20)
def wsX7_told_r1 : List Cond := [Cond.fieldLink RX7 19 "AgainAgain" "machines" "LAgainAgain$Machines;", Cond.methodLink RX7 92 yX2_hasState, Cond.instanceMethod yX2_hasState, Cond.selects RX2 yX2_hasState yX2_hasState, Cond.initialized RX2, Cond.code yX2_hasState cX2_hasState 3 (some .boolean), Cond.fieldLink RX2 9 "AgainAgain$Machines" "sizes" "[I", Cond.methodLink RX2 25 yX2_has, Cond.instanceMethod yX2_has, Cond.selects RX2 yX2_has yX2_has, Cond.code yX2_has cX2_has 2 (some .boolean), Cond.fieldLink RX2 21 "AgainAgain$Machines" "many" "I", Cond.methodLink RX7 72 yX7_within, Cond.static yX7_within, Cond.initialized RX7, Cond.code yX7_within cX7_within 3 (some .boolean), Cond.methodLink RX7 103 yX2_actionOf, Cond.instanceMethod yX2_actionOf, Cond.selects RX2 yX2_actionOf yX2_actionOf, Cond.code yX2_actionOf cX2_actionOf 3 (some .int), Cond.fieldLink RX2 13 "AgainAgain$Machines" "actions" "[I", Cond.methodLink RX7 107 yX2_nextOf, Cond.instanceMethod yX2_nextOf, Cond.selects RX2 yX2_nextOf yX2_nextOf]
def wsX7_told_r2 : List Cond := [Cond.code yX2_nextOf cX2_nextOf 4 (some .int), Cond.fieldLink RX2 18 "AgainAgain$Machines" "nexts" "[I"]
def wsX7_told : List Cond := .code yX7_told cX7_told 4 (some .int) :: ((wsX7_told_r1 ++ wsX7_told_r2) ++ wsX70 ++ wsX20)
def wsX7_drop : List Cond := .code yX7_drop cX7_drop 1 (some .int) :: ([.fieldLink RX7 19 "AgainAgain" "machines" "LAgainAgain$Machines;", .methodLink RX7 111 yX2_many, .instanceMethod yX2_many, .selects RX2 yX2_many yX2_many, .initialized RX2, .code yX2_many cX2_many 1 (some .int), .fieldLink RX2 21 "AgainAgain$Machines" "many" "I", .methodLink RX7 115 yX2_removeLatest, .instanceMethod yX2_removeLatest, .selects RX2 yX2_removeLatest yX2_removeLatest, .code yX2_removeLatest cX2_removeLatest 1 (some .int)] ++ wsX70 ++ wsX20)
def wsX7_sheet : List Cond := .code yX7_sheet cX7_sheet 4 (some .int) :: ([.fieldLink RX7 26 "AgainAgain" "sheets" "LAgainAgain$Sheets;", .methodLink RX7 118 yX5_isSheet, .static yX5_isSheet, .initialized RX5, .code yX5_isSheet cX5_isSheet 1 (some .boolean), .methodLink RX7 121 yX5_isLane, .static yX5_isLane, .code yX5_isLane cX5_isLane 1 (some .boolean), .methodLink RX7 124 yX5_layOut, .instanceMethod yX5_layOut, .selects RX5 yX5_layOut yX5_layOut, .code yX5_layOut cX5_layOut 4 none, .fieldLink RX5 9 "AgainAgain$Sheets" "lanes" "[I", .fieldLink RX5 13 "AgainAgain$Sheets" "sizes" "[I", .fieldLink RX5 16 "AgainAgain$Sheets" "cells" "[I", .methodLink RX5 25 yJ7_fill_fda19, .static yJ7_fill_fda19, .initialized RJ7, .code yJ7_fill_fda19 cJ7_fill_fda19 5 none, .methodLink RJ7 13 yJ7_rangeCheck_23922, .static yJ7_rangeCheck_23922, .code yJ7_rangeCheck_23922 cJ7_rangeCheck_23922 3 none] ++ wsX70 ++ wsX50)
def wsX7_lay : List Cond := .code yX7_lay cX7_lay 4 (some .int) :: ([.fieldLink RX7 26 "AgainAgain" "sheets" "LAgainAgain$Sheets;", .methodLink RX7 118 yX5_isSheet, .static yX5_isSheet, .initialized RX5, .code yX5_isSheet cX5_isSheet 1 (some .boolean), .methodLink RX7 127 yX5_isThere, .instanceMethod yX5_isThere, .selects RX5 yX5_isThere yX5_isThere, .code yX5_isThere cX5_isThere 2 (some .boolean), .fieldLink RX5 9 "AgainAgain$Sheets" "lanes" "[I", .methodLink RX7 130 yX5_hasCell, .instanceMethod yX5_hasCell, .selects RX5 yX5_hasCell yX5_hasCell, .code yX5_hasCell cX5_hasCell 3 (some .boolean), .fieldLink RX5 13 "AgainAgain$Sheets" "sizes" "[I", .methodLink RX7 133 yX5_setCell, .instanceMethod yX5_setCell, .selects RX5 yX5_setCell yX5_setCell, .code yX5_setCell cX5_setCell 4 none, .fieldLink RX5 16 "AgainAgain$Sheets" "cells" "[I", .methodLink RX5 28 yX5_lowestBits, .static yX5_lowestBits, .code yX5_lowestBits cX5_lowestBits 2 (some .int)] ++ wsX70 ++ wsX50)
def wsX7_cellFault : List Cond := .code yX7_cellFault cX7_cellFault 6 (some .int) :: ([.fieldLink RX7 26 "AgainAgain" "sheets" "LAgainAgain$Sheets;", .methodLink RX7 130 yX5_hasCell, .instanceMethod yX5_hasCell, .selects RX5 yX5_hasCell yX5_hasCell, .initialized RX5, .code yX5_hasCell cX5_hasCell 3 (some .boolean), .fieldLink RX5 13 "AgainAgain$Sheets" "sizes" "[I", .methodLink RX7 269 yX5_cell, .instanceMethod yX5_cell, .selects RX5 yX5_cell yX5_cell, .code yX5_cell cX5_cell 3 (some .int), .fieldLink RX5 16 "AgainAgain$Sheets" "cells" "[I", .methodLink RX7 72 yX7_within, .static yX7_within, .initialized RX7, .code yX7_within cX7_within 3 (some .boolean)] ++ wsX70 ++ wsX50)
def wsX7_readMachine_r1 : List Cond := [Cond.fieldLink RX7 19 "AgainAgain" "machines" "LAgainAgain$Machines;", Cond.fieldLink RX7 26 "AgainAgain" "sheets" "LAgainAgain$Sheets;", Cond.methodLink RX7 88 yX2_add, Cond.instanceMethod yX2_add, Cond.selects RX2 yX2_add yX2_add, Cond.initialized RX2, Cond.code yX2_add cX2_add 5 (some .int), Cond.fieldLink RX2 21 "AgainAgain$Machines" "many" "I", Cond.fieldLink RX2 9 "AgainAgain$Machines" "sizes" "[I", Cond.methodLink RX2 29 yX2_setAction, Cond.instanceMethod yX2_setAction, Cond.selects RX2 yX2_setAction yX2_setAction, Cond.code yX2_setAction cX2_setAction 4 none, Cond.fieldLink RX2 13 "AgainAgain$Machines" "actions" "[I", Cond.methodLink RX2 33 yX2_setNext, Cond.instanceMethod yX2_setNext, Cond.selects RX2 yX2_setNext yX2_setNext, Cond.code yX2_setNext cX2_setNext 5 none, Cond.fieldLink RX2 18 "AgainAgain$Machines" "nexts" "[I", Cond.methodLink RX7 269 yX5_cell, Cond.instanceMethod yX5_cell, Cond.selects RX5 yX5_cell yX5_cell, Cond.initialized RX5, Cond.code yX5_cell cX5_cell 3 (some .int)]
def wsX7_readMachine_r2 : List Cond := [Cond.fieldLink RX5 16 "AgainAgain$Sheets" "cells" "[I", Cond.methodLink RX7 96 yX2_setAction, Cond.methodLink RX7 99 yX2_setNext]
def wsX7_readMachine : List Cond := .code yX7_readMachine cX7_readMachine 8 (some .int) :: ((wsX7_readMachine_r1 ++ wsX7_readMachine_r2) ++ wsX70 ++ wsX20 ++ wsX50)
def wsX7_draw_r1 : List Cond := [Cond.fieldLink RX7 26 "AgainAgain" "sheets" "LAgainAgain$Sheets;", Cond.fieldLink RX7 19 "AgainAgain" "machines" "LAgainAgain$Machines;", Cond.methodLink RX7 118 yX5_isSheet, Cond.static yX5_isSheet, Cond.initialized RX5, Cond.code yX5_isSheet cX5_isSheet 1 (some .boolean), Cond.methodLink RX7 121 yX5_isLane, Cond.static yX5_isLane, Cond.code yX5_isLane cX5_isLane 1 (some .boolean), Cond.methodLink RX7 72 yX7_within, Cond.static yX7_within, Cond.initialized RX7, Cond.code yX7_within cX7_within 3 (some .boolean), Cond.methodLink RX7 127 yX5_isThere, Cond.instanceMethod yX5_isThere, Cond.selects RX5 yX5_isThere yX5_isThere, Cond.code yX5_isThere cX5_isThere 2 (some .boolean), Cond.fieldLink RX5 9 "AgainAgain$Sheets" "lanes" "[I", Cond.methodLink RX7 136 yX5_laneOf, Cond.instanceMethod yX5_laneOf, Cond.selects RX5 yX5_laneOf yX5_laneOf, Cond.code yX5_laneOf cX5_laneOf 2 (some .int), Cond.methodLink RX7 139 yX7_cellFault, Cond.instanceMethod yX7_cellFault]
def wsX7_draw_r2 : List Cond := [Cond.selects RX7 yX7_cellFault yX7_cellFault, Cond.code yX7_cellFault cX7_cellFault 6 (some .int), Cond.methodLink RX7 130 yX5_hasCell, Cond.instanceMethod yX5_hasCell, Cond.selects RX5 yX5_hasCell yX5_hasCell, Cond.code yX5_hasCell cX5_hasCell 3 (some .boolean), Cond.fieldLink RX5 13 "AgainAgain$Sheets" "sizes" "[I", Cond.methodLink RX7 269 yX5_cell, Cond.instanceMethod yX5_cell, Cond.selects RX5 yX5_cell yX5_cell, Cond.code yX5_cell cX5_cell 3 (some .int), Cond.fieldLink RX5 16 "AgainAgain$Sheets" "cells" "[I", Cond.methodLink RX7 84 yX2_isFull, Cond.instanceMethod yX2_isFull, Cond.selects RX2 yX2_isFull yX2_isFull, Cond.initialized RX2, Cond.code yX2_isFull cX2_isFull 1 (some .boolean), Cond.fieldLink RX2 21 "AgainAgain$Machines" "many" "I", Cond.methodLink RX7 142 yX7_readMachine, Cond.instanceMethod yX7_readMachine, Cond.selects RX7 yX7_readMachine yX7_readMachine, Cond.code yX7_readMachine cX7_readMachine 8 (some .int), Cond.methodLink RX7 88 yX2_add, Cond.instanceMethod yX2_add]
def wsX7_draw_r3 : List Cond := [Cond.selects RX2 yX2_add yX2_add, Cond.code yX2_add cX2_add 5 (some .int), Cond.fieldLink RX2 9 "AgainAgain$Machines" "sizes" "[I", Cond.methodLink RX2 29 yX2_setAction, Cond.instanceMethod yX2_setAction, Cond.selects RX2 yX2_setAction yX2_setAction, Cond.code yX2_setAction cX2_setAction 4 none, Cond.fieldLink RX2 13 "AgainAgain$Machines" "actions" "[I", Cond.methodLink RX2 33 yX2_setNext, Cond.instanceMethod yX2_setNext, Cond.selects RX2 yX2_setNext yX2_setNext, Cond.code yX2_setNext cX2_setNext 5 none, Cond.fieldLink RX2 18 "AgainAgain$Machines" "nexts" "[I", Cond.methodLink RX7 96 yX2_setAction, Cond.methodLink RX7 99 yX2_setNext]
def wsX7_draw : List Cond := .code yX7_draw cX7_draw 6 (some .int) :: ((wsX7_draw_r1 ++ (wsX7_draw_r2 ++ wsX7_draw_r3)) ++ wsX70 ++ wsX50 ++ wsX20)
def wsX7_areMachines : List Cond := .code yX7_areMachines cX7_areMachines 3 (some .boolean) :: ([.fieldLink RX7 19 "AgainAgain" "machines" "LAgainAgain$Machines;", .methodLink RX7 201 yX2_has, .instanceMethod yX2_has, .selects RX2 yX2_has yX2_has, .initialized RX2, .code yX2_has cX2_has 2 (some .boolean), .fieldLink RX2 21 "AgainAgain$Machines" "many" "I"] ++ wsX70 ++ wsX20)
def wsX7_playOut_r1 : List Cond := [Cond.fieldLink RX7 47 "AgainAgain" "walk" "LAgainAgain$Walk;", Cond.fieldLink RX7 10 "AgainAgain" "game" "LAgainAgain$Game;", Cond.fieldLink RX7 19 "AgainAgain" "machines" "LAgainAgain$Machines;", Cond.methodLink RX7 272 yX6_takeMatch, Cond.instanceMethod yX6_takeMatch, Cond.selects RX6 yX6_takeMatch yX6_takeMatch, Cond.initialized RX6, Cond.code yX6_takeMatch cX6_takeMatch 9 none, Cond.fieldLink RX6 11 "AgainAgain$Walk" "nexts" "[I", Cond.fieldLink RX6 15 "AgainAgain$Walk" "gains" "[I", Cond.methodLink RX6 31 yX2_statesOf, Cond.instanceMethod yX2_statesOf, Cond.selects RX2 yX2_statesOf yX2_statesOf, Cond.initialized RX2, Cond.code yX2_statesOf cX2_statesOf 2 (some .int), Cond.fieldLink RX2 9 "AgainAgain$Machines" "sizes" "[I", Cond.methodLink RX6 35 yX2_actionOf, Cond.instanceMethod yX2_actionOf, Cond.selects RX2 yX2_actionOf yX2_actionOf, Cond.code yX2_actionOf cX2_actionOf 3 (some .int), Cond.fieldLink RX2 13 "AgainAgain$Machines" "actions" "[I", Cond.methodLink RX6 39 yX6_placeOf, Cond.static yX6_placeOf, Cond.code yX6_placeOf cX6_placeOf 2 (some .int)]
def wsX7_playOut_r2 : List Cond := [Cond.methodLink RX6 42 yX2_nextOf, Cond.instanceMethod yX2_nextOf, Cond.selects RX2 yX2_nextOf yX2_nextOf, Cond.code yX2_nextOf cX2_nextOf 4 (some .int), Cond.fieldLink RX2 18 "AgainAgain$Machines" "nexts" "[I", Cond.methodLink RX6 46 yX0_gain, Cond.instanceMethod yX0_gain, Cond.selects RX0 yX0_gain yX0_gain, Cond.initialized RX0, Cond.code yX0_gain cX0_gain 3 (some .int), Cond.fieldLink RX0 9 "AgainAgain$Game" "gains" "[I", Cond.methodLink RX7 275 yX6_startAt, Cond.instanceMethod yX6_startAt, Cond.selects RX6 yX6_startAt yX6_startAt, Cond.code yX6_startAt cX6_startAt 4 none, Cond.fieldLink RX6 18 "AgainAgain$Walk" "firstMet" "[I", Cond.fieldLink RX6 21 "AgainAgain$Walk" "path" "[I", Cond.fieldLink RX6 24 "AgainAgain$Walk" "tail" "I", Cond.fieldLink RX6 28 "AgainAgain$Walk" "ring" "I", Cond.methodLink RX6 51 yJ7_fill_53178, Cond.static yJ7_fill_53178, Cond.initialized RJ7, Cond.code yJ7_fill_53178 cJ7_fill_53178 4 none]
def wsX7_playOut : List Cond := .code yX7_playOut cX7_playOut 3 none :: ((wsX7_playOut_r1 ++ wsX7_playOut_r2) ++ wsX70 ++ wsX60 ++ wsX20 ++ wsX00)
def wsX7_action_r1 : List Cond := [Cond.fieldLink RX7 19 "AgainAgain" "machines" "LAgainAgain$Machines;", Cond.fieldLink RX7 47 "AgainAgain" "walk" "LAgainAgain$Walk;", Cond.methodLink RX7 145 yX7_areMachines, Cond.instanceMethod yX7_areMachines, Cond.selects RX7 yX7_areMachines yX7_areMachines, Cond.initialized RX7, Cond.code yX7_areMachines cX7_areMachines 3 (some .boolean), Cond.methodLink RX7 201 yX2_has, Cond.instanceMethod yX2_has, Cond.selects RX2 yX2_has yX2_has, Cond.initialized RX2, Cond.code yX2_has cX2_has 2 (some .boolean), Cond.fieldLink RX2 21 "AgainAgain$Machines" "many" "I", Cond.methodLink RX7 72 yX7_within, Cond.static yX7_within, Cond.code yX7_within cX7_within 3 (some .boolean), Cond.methodLink RX7 148 yX7_playOut, Cond.instanceMethod yX7_playOut, Cond.selects RX7 yX7_playOut yX7_playOut, Cond.code yX7_playOut cX7_playOut 3 none, Cond.fieldLink RX7 10 "AgainAgain" "game" "LAgainAgain$Game;", Cond.methodLink RX7 272 yX6_takeMatch, Cond.instanceMethod yX6_takeMatch, Cond.selects RX6 yX6_takeMatch yX6_takeMatch]
def wsX7_action_r2 : List Cond := [Cond.initialized RX6, Cond.code yX6_takeMatch cX6_takeMatch 9 none, Cond.fieldLink RX6 11 "AgainAgain$Walk" "nexts" "[I", Cond.fieldLink RX6 15 "AgainAgain$Walk" "gains" "[I", Cond.methodLink RX6 31 yX2_statesOf, Cond.instanceMethod yX2_statesOf, Cond.selects RX2 yX2_statesOf yX2_statesOf, Cond.code yX2_statesOf cX2_statesOf 2 (some .int), Cond.fieldLink RX2 9 "AgainAgain$Machines" "sizes" "[I", Cond.methodLink RX6 35 yX2_actionOf, Cond.instanceMethod yX2_actionOf, Cond.selects RX2 yX2_actionOf yX2_actionOf, Cond.code yX2_actionOf cX2_actionOf 3 (some .int), Cond.fieldLink RX2 13 "AgainAgain$Machines" "actions" "[I", Cond.methodLink RX6 39 yX6_placeOf, Cond.static yX6_placeOf, Cond.code yX6_placeOf cX6_placeOf 2 (some .int), Cond.methodLink RX6 42 yX2_nextOf, Cond.instanceMethod yX2_nextOf, Cond.selects RX2 yX2_nextOf yX2_nextOf, Cond.code yX2_nextOf cX2_nextOf 4 (some .int), Cond.fieldLink RX2 18 "AgainAgain$Machines" "nexts" "[I", Cond.methodLink RX6 46 yX0_gain, Cond.instanceMethod yX0_gain]
def wsX7_action_r3 : List Cond := [Cond.selects RX0 yX0_gain yX0_gain, Cond.initialized RX0, Cond.code yX0_gain cX0_gain 3 (some .int), Cond.fieldLink RX0 9 "AgainAgain$Game" "gains" "[I", Cond.methodLink RX7 275 yX6_startAt, Cond.instanceMethod yX6_startAt, Cond.selects RX6 yX6_startAt yX6_startAt, Cond.code yX6_startAt cX6_startAt 4 none, Cond.fieldLink RX6 18 "AgainAgain$Walk" "firstMet" "[I", Cond.fieldLink RX6 21 "AgainAgain$Walk" "path" "[I", Cond.fieldLink RX6 24 "AgainAgain$Walk" "tail" "I", Cond.fieldLink RX6 28 "AgainAgain$Walk" "ring" "I", Cond.methodLink RX6 51 yJ7_fill_53178, Cond.static yJ7_fill_53178, Cond.initialized RJ7, Cond.code yJ7_fill_53178 cJ7_fill_53178 4 none, Cond.methodLink RX7 151 yX6_placeIn, Cond.instanceMethod yX6_placeIn, Cond.selects RX6 yX6_placeIn yX6_placeIn, Cond.code yX6_placeIn cX6_placeIn 2 (some .int), Cond.methodLink RX7 154 yX6_mine, Cond.static yX6_mine, Cond.code yX6_mine cX6_mine 1 (some .int), Cond.methodLink RX7 103 yX2_actionOf]
def wsX7_action : List Cond := .code yX7_action cX7_action 4 (some .int) :: ((wsX7_action_r1 ++ (wsX7_action_r2 ++ wsX7_action_r3)) ++ wsX70 ++ wsX20 ++ wsX60 ++ wsX00)
def wsX7_match_r1 : List Cond := [Cond.constant RX7 157 (-1000000), Cond.fieldLink RX7 47 "AgainAgain" "walk" "LAgainAgain$Walk;", Cond.methodLink RX7 145 yX7_areMachines, Cond.instanceMethod yX7_areMachines, Cond.selects RX7 yX7_areMachines yX7_areMachines, Cond.initialized RX7, Cond.code yX7_areMachines cX7_areMachines 3 (some .boolean), Cond.fieldLink RX7 19 "AgainAgain" "machines" "LAgainAgain$Machines;", Cond.methodLink RX7 201 yX2_has, Cond.instanceMethod yX2_has, Cond.selects RX2 yX2_has yX2_has, Cond.initialized RX2, Cond.code yX2_has cX2_has 2 (some .boolean), Cond.fieldLink RX2 21 "AgainAgain$Machines" "many" "I", Cond.methodLink RX7 72 yX7_within, Cond.static yX7_within, Cond.code yX7_within cX7_within 3 (some .boolean), Cond.methodLink RX7 148 yX7_playOut, Cond.instanceMethod yX7_playOut, Cond.selects RX7 yX7_playOut yX7_playOut, Cond.code yX7_playOut cX7_playOut 3 none, Cond.fieldLink RX7 10 "AgainAgain" "game" "LAgainAgain$Game;", Cond.methodLink RX7 272 yX6_takeMatch, Cond.instanceMethod yX6_takeMatch]
def wsX7_match_r2 : List Cond := [Cond.selects RX6 yX6_takeMatch yX6_takeMatch, Cond.initialized RX6, Cond.code yX6_takeMatch cX6_takeMatch 9 none, Cond.fieldLink RX6 11 "AgainAgain$Walk" "nexts" "[I", Cond.fieldLink RX6 15 "AgainAgain$Walk" "gains" "[I", Cond.methodLink RX6 31 yX2_statesOf, Cond.instanceMethod yX2_statesOf, Cond.selects RX2 yX2_statesOf yX2_statesOf, Cond.code yX2_statesOf cX2_statesOf 2 (some .int), Cond.fieldLink RX2 9 "AgainAgain$Machines" "sizes" "[I", Cond.methodLink RX6 35 yX2_actionOf, Cond.instanceMethod yX2_actionOf, Cond.selects RX2 yX2_actionOf yX2_actionOf, Cond.code yX2_actionOf cX2_actionOf 3 (some .int), Cond.fieldLink RX2 13 "AgainAgain$Machines" "actions" "[I", Cond.methodLink RX6 39 yX6_placeOf, Cond.static yX6_placeOf, Cond.code yX6_placeOf cX6_placeOf 2 (some .int), Cond.methodLink RX6 42 yX2_nextOf, Cond.instanceMethod yX2_nextOf, Cond.selects RX2 yX2_nextOf yX2_nextOf, Cond.code yX2_nextOf cX2_nextOf 4 (some .int), Cond.fieldLink RX2 18 "AgainAgain$Machines" "nexts" "[I", Cond.methodLink RX6 46 yX0_gain]
def wsX7_match_r3 : List Cond := [Cond.instanceMethod yX0_gain, Cond.selects RX0 yX0_gain yX0_gain, Cond.initialized RX0, Cond.code yX0_gain cX0_gain 3 (some .int), Cond.fieldLink RX0 9 "AgainAgain$Game" "gains" "[I", Cond.methodLink RX7 275 yX6_startAt, Cond.instanceMethod yX6_startAt, Cond.selects RX6 yX6_startAt yX6_startAt, Cond.code yX6_startAt cX6_startAt 4 none, Cond.fieldLink RX6 18 "AgainAgain$Walk" "firstMet" "[I", Cond.fieldLink RX6 21 "AgainAgain$Walk" "path" "[I", Cond.fieldLink RX6 24 "AgainAgain$Walk" "tail" "I", Cond.fieldLink RX6 28 "AgainAgain$Walk" "ring" "I", Cond.methodLink RX6 51 yJ7_fill_53178, Cond.static yJ7_fill_53178, Cond.initialized RJ7, Cond.code yJ7_fill_53178 cJ7_fill_53178 4 none, Cond.methodLink RX7 158 yX6_tail, Cond.instanceMethod yX6_tail, Cond.selects RX6 yX6_tail yX6_tail, Cond.code yX6_tail cX6_tail 1 (some .int), Cond.methodLink RX7 161 yX6_ring, Cond.instanceMethod yX6_ring, Cond.selects RX6 yX6_ring yX6_ring]
def wsX7_match_r4 : List Cond := [Cond.code yX6_ring cX6_ring 1 (some .int), Cond.methodLink RX7 164 yX6_tailGains, Cond.instanceMethod yX6_tailGains, Cond.selects RX6 yX6_tailGains yX6_tailGains, Cond.code yX6_tailGains cX6_tailGains 1 (some .int), Cond.methodLink RX6 57 yX6_gainsAlong, Cond.instanceMethod yX6_gainsAlong, Cond.selects RX6 yX6_gainsAlong yX6_gainsAlong, Cond.code yX6_gainsAlong cX6_gainsAlong 5 (some .int), Cond.methodLink RX7 167 yX6_ringGains, Cond.instanceMethod yX6_ringGains, Cond.selects RX6 yX6_ringGains yX6_ringGains, Cond.code yX6_ringGains cX6_ringGains 1 (some .int)]
def wsX7_match : List Cond := .code yX7_match cX7_match 4 (some .int) :: ((wsX7_match_r1 ++ (wsX7_match_r2 ++ (wsX7_match_r3 ++ wsX7_match_r4))) ++ wsX70 ++ wsX20 ++ wsX60 ++ wsX00)
def wsX7_gainsOf_r1 : List Cond := [Cond.fieldLink RX7 47 "AgainAgain" "walk" "LAgainAgain$Walk;", Cond.methodLink RX7 148 yX7_playOut, Cond.instanceMethod yX7_playOut, Cond.selects RX7 yX7_playOut yX7_playOut, Cond.initialized RX7, Cond.code yX7_playOut cX7_playOut 3 none, Cond.fieldLink RX7 10 "AgainAgain" "game" "LAgainAgain$Game;", Cond.fieldLink RX7 19 "AgainAgain" "machines" "LAgainAgain$Machines;", Cond.methodLink RX7 272 yX6_takeMatch, Cond.instanceMethod yX6_takeMatch, Cond.selects RX6 yX6_takeMatch yX6_takeMatch, Cond.initialized RX6, Cond.code yX6_takeMatch cX6_takeMatch 9 none, Cond.fieldLink RX6 11 "AgainAgain$Walk" "nexts" "[I", Cond.fieldLink RX6 15 "AgainAgain$Walk" "gains" "[I", Cond.methodLink RX6 31 yX2_statesOf, Cond.instanceMethod yX2_statesOf, Cond.selects RX2 yX2_statesOf yX2_statesOf, Cond.initialized RX2, Cond.code yX2_statesOf cX2_statesOf 2 (some .int), Cond.fieldLink RX2 9 "AgainAgain$Machines" "sizes" "[I", Cond.methodLink RX6 35 yX2_actionOf, Cond.instanceMethod yX2_actionOf, Cond.selects RX2 yX2_actionOf yX2_actionOf]
def wsX7_gainsOf_r2 : List Cond := [Cond.code yX2_actionOf cX2_actionOf 3 (some .int), Cond.fieldLink RX2 13 "AgainAgain$Machines" "actions" "[I", Cond.methodLink RX6 39 yX6_placeOf, Cond.static yX6_placeOf, Cond.code yX6_placeOf cX6_placeOf 2 (some .int), Cond.methodLink RX6 42 yX2_nextOf, Cond.instanceMethod yX2_nextOf, Cond.selects RX2 yX2_nextOf yX2_nextOf, Cond.code yX2_nextOf cX2_nextOf 4 (some .int), Cond.fieldLink RX2 18 "AgainAgain$Machines" "nexts" "[I", Cond.methodLink RX6 46 yX0_gain, Cond.instanceMethod yX0_gain, Cond.selects RX0 yX0_gain yX0_gain, Cond.initialized RX0, Cond.code yX0_gain cX0_gain 3 (some .int), Cond.fieldLink RX0 9 "AgainAgain$Game" "gains" "[I", Cond.methodLink RX7 275 yX6_startAt, Cond.instanceMethod yX6_startAt, Cond.selects RX6 yX6_startAt yX6_startAt, Cond.code yX6_startAt cX6_startAt 4 none, Cond.fieldLink RX6 18 "AgainAgain$Walk" "firstMet" "[I", Cond.fieldLink RX6 21 "AgainAgain$Walk" "path" "[I", Cond.fieldLink RX6 24 "AgainAgain$Walk" "tail" "I", Cond.fieldLink RX6 28 "AgainAgain$Walk" "ring" "I"]
def wsX7_gainsOf_r3 : List Cond := [Cond.methodLink RX6 51 yJ7_fill_53178, Cond.static yJ7_fill_53178, Cond.initialized RJ7, Cond.code yJ7_fill_53178 cJ7_fill_53178 4 none, Cond.methodLink RX7 279 yX6_gainsOfFirst, Cond.instanceMethod yX6_gainsOfFirst, Cond.selects RX6 yX6_gainsOfFirst yX6_gainsOfFirst, Cond.code yX6_gainsOfFirst cX6_gainsOfFirst 3 (some .int), Cond.methodLink RX6 57 yX6_gainsAlong, Cond.instanceMethod yX6_gainsAlong, Cond.selects RX6 yX6_gainsAlong yX6_gainsAlong, Cond.code yX6_gainsAlong cX6_gainsAlong 5 (some .int), Cond.methodLink RX6 60 yX6_tailGains, Cond.instanceMethod yX6_tailGains, Cond.selects RX6 yX6_tailGains yX6_tailGains, Cond.code yX6_tailGains cX6_tailGains 1 (some .int), Cond.methodLink RX6 64 yX6_ringGains, Cond.instanceMethod yX6_ringGains, Cond.selects RX6 yX6_ringGains yX6_ringGains, Cond.code yX6_ringGains cX6_ringGains 1 (some .int)]
def wsX7_gainsOf : List Cond := .code yX7_gainsOf cX7_gainsOf 4 (some .int) :: ((wsX7_gainsOf_r1 ++ (wsX7_gainsOf_r2 ++ wsX7_gainsOf_r3)) ++ wsX70 ++ wsX60 ++ wsX20 ++ wsX00)
def wsX7_sum_r1 : List Cond := [Cond.constant RX7 157 (-1000000), Cond.methodLink RX7 145 yX7_areMachines, Cond.instanceMethod yX7_areMachines, Cond.selects RX7 yX7_areMachines yX7_areMachines, Cond.initialized RX7, Cond.code yX7_areMachines cX7_areMachines 3 (some .boolean), Cond.fieldLink RX7 19 "AgainAgain" "machines" "LAgainAgain$Machines;", Cond.methodLink RX7 201 yX2_has, Cond.instanceMethod yX2_has, Cond.selects RX2 yX2_has yX2_has, Cond.initialized RX2, Cond.code yX2_has cX2_has 2 (some .boolean), Cond.fieldLink RX2 21 "AgainAgain$Machines" "many" "I", Cond.methodLink RX7 72 yX7_within, Cond.static yX7_within, Cond.code yX7_within cX7_within 3 (some .boolean), Cond.methodLink RX7 170 yX7_gainsOf, Cond.instanceMethod yX7_gainsOf, Cond.selects RX7 yX7_gainsOf yX7_gainsOf, Cond.code yX7_gainsOf cX7_gainsOf 4 (some .int), Cond.fieldLink RX7 47 "AgainAgain" "walk" "LAgainAgain$Walk;", Cond.methodLink RX7 148 yX7_playOut, Cond.instanceMethod yX7_playOut, Cond.selects RX7 yX7_playOut yX7_playOut]
def wsX7_sum_r2 : List Cond := [Cond.code yX7_playOut cX7_playOut 3 none, Cond.fieldLink RX7 10 "AgainAgain" "game" "LAgainAgain$Game;", Cond.methodLink RX7 272 yX6_takeMatch, Cond.instanceMethod yX6_takeMatch, Cond.selects RX6 yX6_takeMatch yX6_takeMatch, Cond.initialized RX6, Cond.code yX6_takeMatch cX6_takeMatch 9 none, Cond.fieldLink RX6 11 "AgainAgain$Walk" "nexts" "[I", Cond.fieldLink RX6 15 "AgainAgain$Walk" "gains" "[I", Cond.methodLink RX6 31 yX2_statesOf, Cond.instanceMethod yX2_statesOf, Cond.selects RX2 yX2_statesOf yX2_statesOf, Cond.code yX2_statesOf cX2_statesOf 2 (some .int), Cond.fieldLink RX2 9 "AgainAgain$Machines" "sizes" "[I", Cond.methodLink RX6 35 yX2_actionOf, Cond.instanceMethod yX2_actionOf, Cond.selects RX2 yX2_actionOf yX2_actionOf, Cond.code yX2_actionOf cX2_actionOf 3 (some .int), Cond.fieldLink RX2 13 "AgainAgain$Machines" "actions" "[I", Cond.methodLink RX6 39 yX6_placeOf, Cond.static yX6_placeOf, Cond.code yX6_placeOf cX6_placeOf 2 (some .int), Cond.methodLink RX6 42 yX2_nextOf, Cond.instanceMethod yX2_nextOf]
def wsX7_sum_r3 : List Cond := [Cond.selects RX2 yX2_nextOf yX2_nextOf, Cond.code yX2_nextOf cX2_nextOf 4 (some .int), Cond.fieldLink RX2 18 "AgainAgain$Machines" "nexts" "[I", Cond.methodLink RX6 46 yX0_gain, Cond.instanceMethod yX0_gain, Cond.selects RX0 yX0_gain yX0_gain, Cond.initialized RX0, Cond.code yX0_gain cX0_gain 3 (some .int), Cond.fieldLink RX0 9 "AgainAgain$Game" "gains" "[I", Cond.methodLink RX7 275 yX6_startAt, Cond.instanceMethod yX6_startAt, Cond.selects RX6 yX6_startAt yX6_startAt, Cond.code yX6_startAt cX6_startAt 4 none, Cond.fieldLink RX6 18 "AgainAgain$Walk" "firstMet" "[I", Cond.fieldLink RX6 21 "AgainAgain$Walk" "path" "[I", Cond.fieldLink RX6 24 "AgainAgain$Walk" "tail" "I", Cond.fieldLink RX6 28 "AgainAgain$Walk" "ring" "I", Cond.methodLink RX6 51 yJ7_fill_53178, Cond.static yJ7_fill_53178, Cond.initialized RJ7, Cond.code yJ7_fill_53178 cJ7_fill_53178 4 none, Cond.methodLink RX7 279 yX6_gainsOfFirst, Cond.instanceMethod yX6_gainsOfFirst, Cond.selects RX6 yX6_gainsOfFirst yX6_gainsOfFirst]
def wsX7_sum_r4 : List Cond := [Cond.code yX6_gainsOfFirst cX6_gainsOfFirst 3 (some .int), Cond.methodLink RX6 57 yX6_gainsAlong, Cond.instanceMethod yX6_gainsAlong, Cond.selects RX6 yX6_gainsAlong yX6_gainsAlong, Cond.code yX6_gainsAlong cX6_gainsAlong 5 (some .int), Cond.methodLink RX6 60 yX6_tailGains, Cond.instanceMethod yX6_tailGains, Cond.selects RX6 yX6_tailGains yX6_tailGains, Cond.code yX6_tailGains cX6_tailGains 1 (some .int), Cond.methodLink RX6 64 yX6_ringGains, Cond.instanceMethod yX6_ringGains, Cond.selects RX6 yX6_ringGains yX6_ringGains, Cond.code yX6_ringGains cX6_ringGains 1 (some .int)]
def wsX7_sum : List Cond := .code yX7_sum cX7_sum 4 (some .int) :: ((wsX7_sum_r1 ++ (wsX7_sum_r2 ++ (wsX7_sum_r3 ++ wsX7_sum_r4))) ++ wsX70 ++ wsX20 ++ wsX60 ++ wsX00)
def wsX7_mean_r1 : List Cond := [Cond.constantLong RX7 173 (-1000000000000000), Cond.fieldLink RX7 57 "AgainAgain" "ratio" "LAgainAgain$Ratio;", Cond.fieldLink RX7 47 "AgainAgain" "walk" "LAgainAgain$Walk;", Cond.methodLink RX7 145 yX7_areMachines, Cond.instanceMethod yX7_areMachines, Cond.selects RX7 yX7_areMachines yX7_areMachines, Cond.initialized RX7, Cond.code yX7_areMachines cX7_areMachines 3 (some .boolean), Cond.fieldLink RX7 19 "AgainAgain" "machines" "LAgainAgain$Machines;", Cond.methodLink RX7 201 yX2_has, Cond.instanceMethod yX2_has, Cond.selects RX2 yX2_has yX2_has, Cond.initialized RX2, Cond.code yX2_has cX2_has 2 (some .boolean), Cond.fieldLink RX2 21 "AgainAgain$Machines" "many" "I", Cond.methodLink RX7 72 yX7_within, Cond.static yX7_within, Cond.code yX7_within cX7_within 3 (some .boolean), Cond.methodLink RX7 148 yX7_playOut, Cond.instanceMethod yX7_playOut, Cond.selects RX7 yX7_playOut yX7_playOut, Cond.code yX7_playOut cX7_playOut 3 none, Cond.fieldLink RX7 10 "AgainAgain" "game" "LAgainAgain$Game;", Cond.methodLink RX7 272 yX6_takeMatch]
def wsX7_mean_r2 : List Cond := [Cond.instanceMethod yX6_takeMatch, Cond.selects RX6 yX6_takeMatch yX6_takeMatch, Cond.initialized RX6, Cond.code yX6_takeMatch cX6_takeMatch 9 none, Cond.fieldLink RX6 11 "AgainAgain$Walk" "nexts" "[I", Cond.fieldLink RX6 15 "AgainAgain$Walk" "gains" "[I", Cond.methodLink RX6 31 yX2_statesOf, Cond.instanceMethod yX2_statesOf, Cond.selects RX2 yX2_statesOf yX2_statesOf, Cond.code yX2_statesOf cX2_statesOf 2 (some .int), Cond.fieldLink RX2 9 "AgainAgain$Machines" "sizes" "[I", Cond.methodLink RX6 35 yX2_actionOf, Cond.instanceMethod yX2_actionOf, Cond.selects RX2 yX2_actionOf yX2_actionOf, Cond.code yX2_actionOf cX2_actionOf 3 (some .int), Cond.fieldLink RX2 13 "AgainAgain$Machines" "actions" "[I", Cond.methodLink RX6 39 yX6_placeOf, Cond.static yX6_placeOf, Cond.code yX6_placeOf cX6_placeOf 2 (some .int), Cond.methodLink RX6 42 yX2_nextOf, Cond.instanceMethod yX2_nextOf, Cond.selects RX2 yX2_nextOf yX2_nextOf, Cond.code yX2_nextOf cX2_nextOf 4 (some .int), Cond.fieldLink RX2 18 "AgainAgain$Machines" "nexts" "[I"]
def wsX7_mean_r3 : List Cond := [Cond.methodLink RX6 46 yX0_gain, Cond.instanceMethod yX0_gain, Cond.selects RX0 yX0_gain yX0_gain, Cond.initialized RX0, Cond.code yX0_gain cX0_gain 3 (some .int), Cond.fieldLink RX0 9 "AgainAgain$Game" "gains" "[I", Cond.methodLink RX7 275 yX6_startAt, Cond.instanceMethod yX6_startAt, Cond.selects RX6 yX6_startAt yX6_startAt, Cond.code yX6_startAt cX6_startAt 4 none, Cond.fieldLink RX6 18 "AgainAgain$Walk" "firstMet" "[I", Cond.fieldLink RX6 21 "AgainAgain$Walk" "path" "[I", Cond.fieldLink RX6 24 "AgainAgain$Walk" "tail" "I", Cond.fieldLink RX6 28 "AgainAgain$Walk" "ring" "I", Cond.methodLink RX6 51 yJ7_fill_53178, Cond.static yJ7_fill_53178, Cond.initialized RJ7, Cond.code yJ7_fill_53178 cJ7_fill_53178 4 none, Cond.methodLink RX7 167 yX6_ringGains, Cond.instanceMethod yX6_ringGains, Cond.selects RX6 yX6_ringGains yX6_ringGains, Cond.code yX6_ringGains cX6_ringGains 1 (some .int), Cond.methodLink RX6 57 yX6_gainsAlong, Cond.instanceMethod yX6_gainsAlong]
def wsX7_mean_r4 : List Cond := [Cond.selects RX6 yX6_gainsAlong yX6_gainsAlong, Cond.code yX6_gainsAlong cX6_gainsAlong 5 (some .int), Cond.methodLink RX7 161 yX6_ring, Cond.instanceMethod yX6_ring, Cond.selects RX6 yX6_ring yX6_ring, Cond.code yX6_ring cX6_ring 1 (some .int), Cond.methodLink RX7 175 yX4_become, Cond.instanceMethod yX4_become, Cond.selects RX4 yX4_become yX4_become, Cond.initialized RX4, Cond.code yX4_become cX4_become 7 none, Cond.methodLink RX4 16 Lib.MathLoose.abs_long.x, Cond.static Lib.MathLoose.abs_long.x, Cond.initialized "java/lang/Math", Cond.code Lib.MathLoose.abs_long.x Lib.MathLoose.abs_long.code 2 (some .long), Cond.fieldLink RX4 7 "AgainAgain$Ratio" "top" "J", Cond.fieldLink RX4 13 "AgainAgain$Ratio" "bottom" "J", Cond.methodLink RX4 22 yX4_greatestShared, Cond.static yX4_greatestShared, Cond.code yX4_greatestShared cX4_greatestShared 11 (some .long), Cond.methodLink RX7 179 yX4_part, Cond.instanceMethod yX4_part, Cond.selects RX4 yX4_part yX4_part, Cond.code yX4_part cX4_part 2 (some .long)]
def wsX7_mean : List Cond := .code yX7_mean cX7_mean 4 (some .long) :: ((wsX7_mean_r1 ++ (wsX7_mean_r2 ++ (wsX7_mean_r3 ++ wsX7_mean_r4))) ++ wsX70 ++ wsX20 ++ wsX60 ++ wsX00 ++ wsX40)
def wsX7_matchWorth_r1 : List Cond := [Cond.fieldLink RX7 47 "AgainAgain" "walk" "LAgainAgain$Walk;", Cond.fieldLink RX7 10 "AgainAgain" "game" "LAgainAgain$Game;", Cond.methodLink RX7 148 yX7_playOut, Cond.instanceMethod yX7_playOut, Cond.selects RX7 yX7_playOut yX7_playOut, Cond.initialized RX7, Cond.code yX7_playOut cX7_playOut 3 none, Cond.fieldLink RX7 19 "AgainAgain" "machines" "LAgainAgain$Machines;", Cond.methodLink RX7 272 yX6_takeMatch, Cond.instanceMethod yX6_takeMatch, Cond.selects RX6 yX6_takeMatch yX6_takeMatch, Cond.initialized RX6, Cond.code yX6_takeMatch cX6_takeMatch 9 none, Cond.fieldLink RX6 11 "AgainAgain$Walk" "nexts" "[I", Cond.fieldLink RX6 15 "AgainAgain$Walk" "gains" "[I", Cond.methodLink RX6 31 yX2_statesOf, Cond.instanceMethod yX2_statesOf, Cond.selects RX2 yX2_statesOf yX2_statesOf, Cond.initialized RX2, Cond.code yX2_statesOf cX2_statesOf 2 (some .int), Cond.fieldLink RX2 9 "AgainAgain$Machines" "sizes" "[I", Cond.methodLink RX6 35 yX2_actionOf, Cond.instanceMethod yX2_actionOf, Cond.selects RX2 yX2_actionOf yX2_actionOf]
def wsX7_matchWorth_r2 : List Cond := [Cond.code yX2_actionOf cX2_actionOf 3 (some .int), Cond.fieldLink RX2 13 "AgainAgain$Machines" "actions" "[I", Cond.methodLink RX6 39 yX6_placeOf, Cond.static yX6_placeOf, Cond.code yX6_placeOf cX6_placeOf 2 (some .int), Cond.methodLink RX6 42 yX2_nextOf, Cond.instanceMethod yX2_nextOf, Cond.selects RX2 yX2_nextOf yX2_nextOf, Cond.code yX2_nextOf cX2_nextOf 4 (some .int), Cond.fieldLink RX2 18 "AgainAgain$Machines" "nexts" "[I", Cond.methodLink RX6 46 yX0_gain, Cond.instanceMethod yX0_gain, Cond.selects RX0 yX0_gain yX0_gain, Cond.initialized RX0, Cond.code yX0_gain cX0_gain 3 (some .int), Cond.fieldLink RX0 9 "AgainAgain$Game" "gains" "[I", Cond.methodLink RX7 275 yX6_startAt, Cond.instanceMethod yX6_startAt, Cond.selects RX6 yX6_startAt yX6_startAt, Cond.code yX6_startAt cX6_startAt 4 none, Cond.fieldLink RX6 18 "AgainAgain$Walk" "firstMet" "[I", Cond.fieldLink RX6 21 "AgainAgain$Walk" "path" "[I", Cond.fieldLink RX6 24 "AgainAgain$Walk" "tail" "I", Cond.fieldLink RX6 28 "AgainAgain$Walk" "ring" "I"]
def wsX7_matchWorth_r3 : List Cond := [Cond.methodLink RX6 51 yJ7_fill_53178, Cond.static yJ7_fill_53178, Cond.initialized RJ7, Cond.code yJ7_fill_53178 cJ7_fill_53178 4 none, Cond.methodLink RX7 282 yX6_worthInto, Cond.instanceMethod yX6_worthInto, Cond.selects RX6 yX6_worthInto yX6_worthInto, Cond.code yX6_worthInto cX6_worthInto 11 none, Cond.methodLink RX6 67 yX0_rateOver, Cond.instanceMethod yX0_rateOver, Cond.selects RX0 yX0_rateOver yX0_rateOver, Cond.code yX0_rateOver cX0_rateOver 1 (some .long), Cond.fieldLink RX0 13 "AgainAgain$Game" "over" "J", Cond.methodLink RX6 71 yX0_rateUnder, Cond.instanceMethod yX0_rateUnder, Cond.selects RX0 yX0_rateUnder yX0_rateUnder, Cond.code yX0_rateUnder cX0_rateUnder 1 (some .long), Cond.fieldLink RX0 19 "AgainAgain$Game" "under" "J", Cond.methodLink RX6 74 yX6_power, Cond.static yX6_power, Cond.code yX6_power cX6_power 6 (some .long), Cond.methodLink RX6 78 yX6_weighedAlong, Cond.instanceMethod yX6_weighedAlong, Cond.selects RX6 yX6_weighedAlong yX6_weighedAlong]
def wsX7_matchWorth_r4 : List Cond := [Cond.code yX6_weighedAlong cX6_weighedAlong 12 (some .long), Cond.methodLink RX6 82 yX4_become, Cond.instanceMethod yX4_become, Cond.selects RX4 yX4_become yX4_become, Cond.initialized RX4, Cond.code yX4_become cX4_become 7 none, Cond.methodLink RX4 16 Lib.MathLoose.abs_long.x, Cond.static Lib.MathLoose.abs_long.x, Cond.initialized "java/lang/Math", Cond.code Lib.MathLoose.abs_long.x Lib.MathLoose.abs_long.code 2 (some .long), Cond.fieldLink RX4 7 "AgainAgain$Ratio" "top" "J", Cond.fieldLink RX4 13 "AgainAgain$Ratio" "bottom" "J", Cond.methodLink RX4 22 yX4_greatestShared, Cond.static yX4_greatestShared, Cond.code yX4_greatestShared cX4_greatestShared 11 (some .long)]
def wsX7_matchWorth : List Cond := .code yX7_matchWorth cX7_matchWorth 4 none :: ((wsX7_matchWorth_r1 ++ (wsX7_matchWorth_r2 ++ (wsX7_matchWorth_r3 ++ wsX7_matchWorth_r4))) ++ wsX70 ++ wsX60 ++ wsX20 ++ wsX00 ++ wsX40)
def wsX7_worth_r1 : List Cond := [Cond.constantLong RX7 173 (-1000000000000000), Cond.fieldLink RX7 57 "AgainAgain" "ratio" "LAgainAgain$Ratio;", Cond.methodLink RX7 145 yX7_areMachines, Cond.instanceMethod yX7_areMachines, Cond.selects RX7 yX7_areMachines yX7_areMachines, Cond.initialized RX7, Cond.code yX7_areMachines cX7_areMachines 3 (some .boolean), Cond.fieldLink RX7 19 "AgainAgain" "machines" "LAgainAgain$Machines;", Cond.methodLink RX7 201 yX2_has, Cond.instanceMethod yX2_has, Cond.selects RX2 yX2_has yX2_has, Cond.initialized RX2, Cond.code yX2_has cX2_has 2 (some .boolean), Cond.fieldLink RX2 21 "AgainAgain$Machines" "many" "I", Cond.methodLink RX7 72 yX7_within, Cond.static yX7_within, Cond.code yX7_within cX7_within 3 (some .boolean), Cond.methodLink RX7 183 yX7_matchWorth, Cond.instanceMethod yX7_matchWorth, Cond.selects RX7 yX7_matchWorth yX7_matchWorth, Cond.code yX7_matchWorth cX7_matchWorth 4 none, Cond.fieldLink RX7 47 "AgainAgain" "walk" "LAgainAgain$Walk;", Cond.fieldLink RX7 10 "AgainAgain" "game" "LAgainAgain$Game;", Cond.methodLink RX7 148 yX7_playOut]
def wsX7_worth_r2 : List Cond := [Cond.instanceMethod yX7_playOut, Cond.selects RX7 yX7_playOut yX7_playOut, Cond.code yX7_playOut cX7_playOut 3 none, Cond.methodLink RX7 272 yX6_takeMatch, Cond.instanceMethod yX6_takeMatch, Cond.selects RX6 yX6_takeMatch yX6_takeMatch, Cond.initialized RX6, Cond.code yX6_takeMatch cX6_takeMatch 9 none, Cond.fieldLink RX6 11 "AgainAgain$Walk" "nexts" "[I", Cond.fieldLink RX6 15 "AgainAgain$Walk" "gains" "[I", Cond.methodLink RX6 31 yX2_statesOf, Cond.instanceMethod yX2_statesOf, Cond.selects RX2 yX2_statesOf yX2_statesOf, Cond.code yX2_statesOf cX2_statesOf 2 (some .int), Cond.fieldLink RX2 9 "AgainAgain$Machines" "sizes" "[I", Cond.methodLink RX6 35 yX2_actionOf, Cond.instanceMethod yX2_actionOf, Cond.selects RX2 yX2_actionOf yX2_actionOf, Cond.code yX2_actionOf cX2_actionOf 3 (some .int), Cond.fieldLink RX2 13 "AgainAgain$Machines" "actions" "[I", Cond.methodLink RX6 39 yX6_placeOf, Cond.static yX6_placeOf, Cond.code yX6_placeOf cX6_placeOf 2 (some .int), Cond.methodLink RX6 42 yX2_nextOf]
def wsX7_worth_r3 : List Cond := [Cond.instanceMethod yX2_nextOf, Cond.selects RX2 yX2_nextOf yX2_nextOf, Cond.code yX2_nextOf cX2_nextOf 4 (some .int), Cond.fieldLink RX2 18 "AgainAgain$Machines" "nexts" "[I", Cond.methodLink RX6 46 yX0_gain, Cond.instanceMethod yX0_gain, Cond.selects RX0 yX0_gain yX0_gain, Cond.initialized RX0, Cond.code yX0_gain cX0_gain 3 (some .int), Cond.fieldLink RX0 9 "AgainAgain$Game" "gains" "[I", Cond.methodLink RX7 275 yX6_startAt, Cond.instanceMethod yX6_startAt, Cond.selects RX6 yX6_startAt yX6_startAt, Cond.code yX6_startAt cX6_startAt 4 none, Cond.fieldLink RX6 18 "AgainAgain$Walk" "firstMet" "[I", Cond.fieldLink RX6 21 "AgainAgain$Walk" "path" "[I", Cond.fieldLink RX6 24 "AgainAgain$Walk" "tail" "I", Cond.fieldLink RX6 28 "AgainAgain$Walk" "ring" "I", Cond.methodLink RX6 51 yJ7_fill_53178, Cond.static yJ7_fill_53178, Cond.initialized RJ7, Cond.code yJ7_fill_53178 cJ7_fill_53178 4 none, Cond.methodLink RX7 282 yX6_worthInto, Cond.instanceMethod yX6_worthInto]
def wsX7_worth_r4 : List Cond := [Cond.selects RX6 yX6_worthInto yX6_worthInto, Cond.code yX6_worthInto cX6_worthInto 11 none, Cond.methodLink RX6 67 yX0_rateOver, Cond.instanceMethod yX0_rateOver, Cond.selects RX0 yX0_rateOver yX0_rateOver, Cond.code yX0_rateOver cX0_rateOver 1 (some .long), Cond.fieldLink RX0 13 "AgainAgain$Game" "over" "J", Cond.methodLink RX6 71 yX0_rateUnder, Cond.instanceMethod yX0_rateUnder, Cond.selects RX0 yX0_rateUnder yX0_rateUnder, Cond.code yX0_rateUnder cX0_rateUnder 1 (some .long), Cond.fieldLink RX0 19 "AgainAgain$Game" "under" "J", Cond.methodLink RX6 74 yX6_power, Cond.static yX6_power, Cond.code yX6_power cX6_power 6 (some .long), Cond.methodLink RX6 78 yX6_weighedAlong, Cond.instanceMethod yX6_weighedAlong, Cond.selects RX6 yX6_weighedAlong yX6_weighedAlong, Cond.code yX6_weighedAlong cX6_weighedAlong 12 (some .long), Cond.methodLink RX6 82 yX4_become, Cond.instanceMethod yX4_become, Cond.selects RX4 yX4_become yX4_become, Cond.initialized RX4, Cond.code yX4_become cX4_become 7 none]
def wsX7_worth_r5 : List Cond := [Cond.methodLink RX4 16 Lib.MathLoose.abs_long.x, Cond.static Lib.MathLoose.abs_long.x, Cond.initialized "java/lang/Math", Cond.code Lib.MathLoose.abs_long.x Lib.MathLoose.abs_long.code 2 (some .long), Cond.fieldLink RX4 7 "AgainAgain$Ratio" "top" "J", Cond.fieldLink RX4 13 "AgainAgain$Ratio" "bottom" "J", Cond.methodLink RX4 22 yX4_greatestShared, Cond.static yX4_greatestShared, Cond.code yX4_greatestShared cX4_greatestShared 11 (some .long), Cond.methodLink RX7 179 yX4_part, Cond.instanceMethod yX4_part, Cond.selects RX4 yX4_part yX4_part, Cond.code yX4_part cX4_part 2 (some .long)]
def wsX7_worth : List Cond := .code yX7_worth cX7_worth 4 (some .long) :: ((wsX7_worth_r1 ++ (wsX7_worth_r2 ++ (wsX7_worth_r3 ++ (wsX7_worth_r4 ++ wsX7_worth_r5)))) ++ wsX70 ++ wsX20 ++ wsX60 ++ wsX00 ++ wsX40)
def wsX7_placeBehindSlip : List Cond := .code yX7_placeBehindSlip cX7_placeBehindSlip 7 (some .int) :: ([.fieldLink RX7 19 "AgainAgain" "machines" "LAgainAgain$Machines;", .methodLink RX7 154 yX6_mine, .static yX6_mine, .initialized RX6, .code yX6_mine cX6_mine 1 (some .int), .methodLink RX7 243 yX6_theirs, .static yX6_theirs, .code yX6_theirs cX6_theirs 1 (some .int), .methodLink RX7 103 yX2_actionOf, .instanceMethod yX2_actionOf, .selects RX2 yX2_actionOf yX2_actionOf, .initialized RX2, .code yX2_actionOf cX2_actionOf 3 (some .int), .fieldLink RX2 13 "AgainAgain$Machines" "actions" "[I", .methodLink RX7 107 yX2_nextOf, .instanceMethod yX2_nextOf, .selects RX2 yX2_nextOf yX2_nextOf, .code yX2_nextOf cX2_nextOf 4 (some .int), .fieldLink RX2 18 "AgainAgain$Machines" "nexts" "[I", .methodLink RX7 286 yX6_placeOf, .static yX6_placeOf, .code yX6_placeOf cX6_placeOf 2 (some .int)] ++ wsX70 ++ wsX20)
def wsX7_slip_r1 : List Cond := [Cond.fieldLink RX7 47 "AgainAgain" "walk" "LAgainAgain$Walk;", Cond.methodLink RX7 145 yX7_areMachines, Cond.instanceMethod yX7_areMachines, Cond.selects RX7 yX7_areMachines yX7_areMachines, Cond.initialized RX7, Cond.code yX7_areMachines cX7_areMachines 3 (some .boolean), Cond.fieldLink RX7 19 "AgainAgain" "machines" "LAgainAgain$Machines;", Cond.methodLink RX7 201 yX2_has, Cond.instanceMethod yX2_has, Cond.selects RX2 yX2_has yX2_has, Cond.initialized RX2, Cond.code yX2_has cX2_has 2 (some .boolean), Cond.fieldLink RX2 21 "AgainAgain$Machines" "many" "I", Cond.methodLink RX7 72 yX7_within, Cond.static yX7_within, Cond.code yX7_within cX7_within 3 (some .boolean), Cond.methodLink RX7 148 yX7_playOut, Cond.instanceMethod yX7_playOut, Cond.selects RX7 yX7_playOut yX7_playOut, Cond.code yX7_playOut cX7_playOut 3 none, Cond.fieldLink RX7 10 "AgainAgain" "game" "LAgainAgain$Game;", Cond.methodLink RX7 272 yX6_takeMatch, Cond.instanceMethod yX6_takeMatch, Cond.selects RX6 yX6_takeMatch yX6_takeMatch]
def wsX7_slip_r2 : List Cond := [Cond.initialized RX6, Cond.code yX6_takeMatch cX6_takeMatch 9 none, Cond.fieldLink RX6 11 "AgainAgain$Walk" "nexts" "[I", Cond.fieldLink RX6 15 "AgainAgain$Walk" "gains" "[I", Cond.methodLink RX6 31 yX2_statesOf, Cond.instanceMethod yX2_statesOf, Cond.selects RX2 yX2_statesOf yX2_statesOf, Cond.code yX2_statesOf cX2_statesOf 2 (some .int), Cond.fieldLink RX2 9 "AgainAgain$Machines" "sizes" "[I", Cond.methodLink RX6 35 yX2_actionOf, Cond.instanceMethod yX2_actionOf, Cond.selects RX2 yX2_actionOf yX2_actionOf, Cond.code yX2_actionOf cX2_actionOf 3 (some .int), Cond.fieldLink RX2 13 "AgainAgain$Machines" "actions" "[I", Cond.methodLink RX6 39 yX6_placeOf, Cond.static yX6_placeOf, Cond.code yX6_placeOf cX6_placeOf 2 (some .int), Cond.methodLink RX6 42 yX2_nextOf, Cond.instanceMethod yX2_nextOf, Cond.selects RX2 yX2_nextOf yX2_nextOf, Cond.code yX2_nextOf cX2_nextOf 4 (some .int), Cond.fieldLink RX2 18 "AgainAgain$Machines" "nexts" "[I", Cond.methodLink RX6 46 yX0_gain, Cond.instanceMethod yX0_gain]
def wsX7_slip_r3 : List Cond := [Cond.selects RX0 yX0_gain yX0_gain, Cond.initialized RX0, Cond.code yX0_gain cX0_gain 3 (some .int), Cond.fieldLink RX0 9 "AgainAgain$Game" "gains" "[I", Cond.methodLink RX7 275 yX6_startAt, Cond.instanceMethod yX6_startAt, Cond.selects RX6 yX6_startAt yX6_startAt, Cond.code yX6_startAt cX6_startAt 4 none, Cond.fieldLink RX6 18 "AgainAgain$Walk" "firstMet" "[I", Cond.fieldLink RX6 21 "AgainAgain$Walk" "path" "[I", Cond.fieldLink RX6 24 "AgainAgain$Walk" "tail" "I", Cond.fieldLink RX6 28 "AgainAgain$Walk" "ring" "I", Cond.methodLink RX6 51 yJ7_fill_53178, Cond.static yJ7_fill_53178, Cond.initialized RJ7, Cond.code yJ7_fill_53178 cJ7_fill_53178 4 none, Cond.methodLink RX7 151 yX6_placeIn, Cond.instanceMethod yX6_placeIn, Cond.selects RX6 yX6_placeIn yX6_placeIn, Cond.code yX6_placeIn cX6_placeIn 2 (some .int), Cond.methodLink RX7 187 yX7_placeBehindSlip, Cond.instanceMethod yX7_placeBehindSlip, Cond.selects RX7 yX7_placeBehindSlip yX7_placeBehindSlip, Cond.code yX7_placeBehindSlip cX7_placeBehindSlip 7 (some .int)]
def wsX7_slip_r4 : List Cond := [Cond.methodLink RX7 154 yX6_mine, Cond.static yX6_mine, Cond.code yX6_mine cX6_mine 1 (some .int), Cond.methodLink RX7 243 yX6_theirs, Cond.static yX6_theirs, Cond.code yX6_theirs cX6_theirs 1 (some .int), Cond.methodLink RX7 103 yX2_actionOf, Cond.methodLink RX7 107 yX2_nextOf, Cond.methodLink RX7 286 yX6_placeOf, Cond.methodLink RX7 190 yX6_meeting, Cond.instanceMethod yX6_meeting, Cond.selects RX6 yX6_meeting yX6_meeting, Cond.code yX6_meeting cX6_meeting 6 (some .int)]
def wsX7_slip : List Cond := .code yX7_slip cX7_slip 5 (some .int) :: ((wsX7_slip_r1 ++ (wsX7_slip_r2 ++ (wsX7_slip_r3 ++ wsX7_slip_r4))) ++ wsX70 ++ wsX20 ++ wsX60 ++ wsX00)
def wsX7_oneIf : List Cond := .code yX7_oneIf cX7_oneIf 1 (some .int) :: ([])
def wsX7_like_r1 : List Cond := [Cond.fieldLink RX7 33 "AgainAgain" "likeness" "LAgainAgain$Likeness;", Cond.fieldLink RX7 19 "AgainAgain" "machines" "LAgainAgain$Machines;", Cond.methodLink RX7 145 yX7_areMachines, Cond.instanceMethod yX7_areMachines, Cond.selects RX7 yX7_areMachines yX7_areMachines, Cond.initialized RX7, Cond.code yX7_areMachines cX7_areMachines 3 (some .boolean), Cond.methodLink RX7 201 yX2_has, Cond.instanceMethod yX2_has, Cond.selects RX2 yX2_has yX2_has, Cond.initialized RX2, Cond.code yX2_has cX2_has 2 (some .boolean), Cond.fieldLink RX2 21 "AgainAgain$Machines" "many" "I", Cond.methodLink RX7 193 yX1_areLike, Cond.instanceMethod yX1_areLike, Cond.selects RX1 yX1_areLike yX1_areLike, Cond.initialized RX1, Cond.code yX1_areLike cX1_areLike 4 (some .boolean), Cond.methodLink RX1 15 yX1_statesLike, Cond.instanceMethod yX1_statesLike, Cond.selects RX1 yX1_statesLike yX1_statesLike, Cond.code yX1_statesLike cX1_statesLike 13 (some .boolean), Cond.fieldLink RX1 9 "AgainAgain$Likeness" "pairs" "[I", Cond.methodLink RX1 55 yX6_placeOf]
def wsX7_like_r2 : List Cond := [Cond.static yX6_placeOf, Cond.initialized RX6, Cond.code yX6_placeOf cX6_placeOf 2 (some .int), Cond.methodLink RX1 59 yX6_mine, Cond.static yX6_mine, Cond.code yX6_mine cX6_mine 1 (some .int), Cond.methodLink RX1 62 yX6_theirs, Cond.static yX6_theirs, Cond.code yX6_theirs cX6_theirs 1 (some .int), Cond.methodLink RX1 65 yX2_actionOf, Cond.instanceMethod yX2_actionOf, Cond.selects RX2 yX2_actionOf yX2_actionOf, Cond.code yX2_actionOf cX2_actionOf 3 (some .int), Cond.fieldLink RX2 13 "AgainAgain$Machines" "actions" "[I", Cond.methodLink RX1 51 yX2_nextOf, Cond.instanceMethod yX2_nextOf, Cond.selects RX2 yX2_nextOf yX2_nextOf, Cond.code yX2_nextOf cX2_nextOf 4 (some .int), Cond.fieldLink RX2 18 "AgainAgain$Machines" "nexts" "[I", Cond.methodLink RX1 41 yX1_holds, Cond.static yX1_holds, Cond.code yX1_holds cX1_holds 2 (some .boolean), Cond.methodLink RX7 197 yX7_oneIf, Cond.static yX7_oneIf]
def wsX7_like_r3 : List Cond := [Cond.code yX7_oneIf cX7_oneIf 1 (some .int)]
def wsX7_like : List Cond := .code yX7_like cX7_like 3 (some .int) :: ((wsX7_like_r1 ++ (wsX7_like_r2 ++ wsX7_like_r3)) ++ wsX70 ++ wsX20 ++ wsX10)
def wsX7_smallest_r1 : List Cond := [Cond.fieldLink RX7 19 "AgainAgain" "machines" "LAgainAgain$Machines;", Cond.fieldLink RX7 33 "AgainAgain" "likeness" "LAgainAgain$Likeness;", Cond.methodLink RX7 201 yX2_has, Cond.instanceMethod yX2_has, Cond.selects RX2 yX2_has yX2_has, Cond.initialized RX2, Cond.code yX2_has cX2_has 2 (some .boolean), Cond.fieldLink RX2 21 "AgainAgain$Machines" "many" "I", Cond.methodLink RX7 204 yX1_unlikeStates, Cond.instanceMethod yX1_unlikeStates, Cond.selects RX1 yX1_unlikeStates yX1_unlikeStates, Cond.initialized RX1, Cond.code yX1_unlikeStates cX1_unlikeStates 6 (some .int), Cond.methodLink RX1 33 yX1_reachedStates, Cond.static yX1_reachedStates, Cond.code yX1_reachedStates cX1_reachedStates 6 (some .int), Cond.methodLink RX1 37 yX2_statesOf, Cond.instanceMethod yX2_statesOf, Cond.selects RX2 yX2_statesOf yX2_statesOf, Cond.code yX2_statesOf cX2_statesOf 2 (some .int), Cond.fieldLink RX2 9 "AgainAgain$Machines" "sizes" "[I", Cond.methodLink RX1 41 yX1_holds, Cond.static yX1_holds, Cond.code yX1_holds cX1_holds 2 (some .boolean)]
def wsX7_smallest_r2 : List Cond := [Cond.methodLink RX1 51 yX2_nextOf, Cond.instanceMethod yX2_nextOf, Cond.selects RX2 yX2_nextOf yX2_nextOf, Cond.code yX2_nextOf cX2_nextOf 4 (some .int), Cond.fieldLink RX2 18 "AgainAgain$Machines" "nexts" "[I", Cond.methodLink RX1 45 yX1_isNewState, Cond.instanceMethod yX1_isNewState, Cond.selects RX1 yX1_isNewState yX1_isNewState, Cond.code yX1_isNewState cX1_isNewState 6 (some .boolean), Cond.methodLink RX1 15 yX1_statesLike, Cond.instanceMethod yX1_statesLike, Cond.selects RX1 yX1_statesLike yX1_statesLike, Cond.code yX1_statesLike cX1_statesLike 13 (some .boolean), Cond.fieldLink RX1 9 "AgainAgain$Likeness" "pairs" "[I", Cond.methodLink RX1 55 yX6_placeOf, Cond.static yX6_placeOf, Cond.initialized RX6, Cond.code yX6_placeOf cX6_placeOf 2 (some .int), Cond.methodLink RX1 59 yX6_mine, Cond.static yX6_mine, Cond.code yX6_mine cX6_mine 1 (some .int), Cond.methodLink RX1 62 yX6_theirs, Cond.static yX6_theirs, Cond.code yX6_theirs cX6_theirs 1 (some .int)]
def wsX7_smallest_r3 : List Cond := [Cond.methodLink RX1 65 yX2_actionOf, Cond.instanceMethod yX2_actionOf, Cond.selects RX2 yX2_actionOf yX2_actionOf, Cond.code yX2_actionOf cX2_actionOf 3 (some .int), Cond.fieldLink RX2 13 "AgainAgain$Machines" "actions" "[I"]
def wsX7_smallest : List Cond := .code yX7_smallest cX7_smallest 2 (some .int) :: ((wsX7_smallest_r1 ++ (wsX7_smallest_r2 ++ wsX7_smallest_r3)) ++ wsX70 ++ wsX20 ++ wsX10)
def wsX7_best_r1 : List Cond := [Cond.fieldLink RX7 19 "AgainAgain" "machines" "LAgainAgain$Machines;", Cond.fieldLink RX7 40 "AgainAgain" "plans" "LAgainAgain$Plans;", Cond.fieldLink RX7 10 "AgainAgain" "game" "LAgainAgain$Game;", Cond.methodLink RX7 92 yX2_hasState, Cond.instanceMethod yX2_hasState, Cond.selects RX2 yX2_hasState yX2_hasState, Cond.initialized RX2, Cond.code yX2_hasState cX2_hasState 3 (some .boolean), Cond.fieldLink RX2 9 "AgainAgain$Machines" "sizes" "[I", Cond.methodLink RX2 25 yX2_has, Cond.instanceMethod yX2_has, Cond.selects RX2 yX2_has yX2_has, Cond.code yX2_has cX2_has 2 (some .boolean), Cond.fieldLink RX2 21 "AgainAgain$Machines" "many" "I", Cond.methodLink RX7 208 yX3_learn, Cond.instanceMethod yX3_learn, Cond.selects RX3 yX3_learn yX3_learn, Cond.initialized RX3, Cond.code yX3_learn cX3_learn 6 none, Cond.fieldLink RX3 32 "AgainAgain$Plans" "tried" "LAgainAgain$Ratio;", Cond.methodLink RX3 50 yX3_weigh, Cond.instanceMethod yX3_weigh, Cond.selects RX3 yX3_weigh yX3_weigh, Cond.code yX3_weigh cX3_weigh 7 none]
def wsX7_best_r2 : List Cond := [Cond.fieldLink RX3 25 "AgainAgain$Plans" "walk" "LAgainAgain$Walk;", Cond.methodLink RX3 38 yX6_takePlan, Cond.instanceMethod yX6_takePlan, Cond.selects RX6 yX6_takePlan yX6_takePlan, Cond.initialized RX6, Cond.code yX6_takePlan cX6_takePlan 8 none, Cond.fieldLink RX6 11 "AgainAgain$Walk" "nexts" "[I", Cond.fieldLink RX6 15 "AgainAgain$Walk" "gains" "[I", Cond.methodLink RX6 31 yX2_statesOf, Cond.instanceMethod yX2_statesOf, Cond.selects RX2 yX2_statesOf yX2_statesOf, Cond.code yX2_statesOf cX2_statesOf 2 (some .int), Cond.methodLink RX6 42 yX2_nextOf, Cond.instanceMethod yX2_nextOf, Cond.selects RX2 yX2_nextOf yX2_nextOf, Cond.code yX2_nextOf cX2_nextOf 4 (some .int), Cond.fieldLink RX2 18 "AgainAgain$Machines" "nexts" "[I", Cond.methodLink RX6 35 yX2_actionOf, Cond.instanceMethod yX2_actionOf, Cond.selects RX2 yX2_actionOf yX2_actionOf, Cond.code yX2_actionOf cX2_actionOf 3 (some .int), Cond.fieldLink RX2 13 "AgainAgain$Machines" "actions" "[I", Cond.methodLink RX6 46 yX0_gain, Cond.instanceMethod yX0_gain]
def wsX7_best_r3 : List Cond := [Cond.selects RX0 yX0_gain yX0_gain, Cond.initialized RX0, Cond.code yX0_gain cX0_gain 3 (some .int), Cond.fieldLink RX0 9 "AgainAgain$Game" "gains" "[I", Cond.methodLink RX3 42 yX6_startAt, Cond.instanceMethod yX6_startAt, Cond.selects RX6 yX6_startAt yX6_startAt, Cond.code yX6_startAt cX6_startAt 4 none, Cond.fieldLink RX6 18 "AgainAgain$Walk" "firstMet" "[I", Cond.fieldLink RX6 21 "AgainAgain$Walk" "path" "[I", Cond.fieldLink RX6 24 "AgainAgain$Walk" "tail" "I", Cond.fieldLink RX6 28 "AgainAgain$Walk" "ring" "I", Cond.methodLink RX6 51 yJ7_fill_53178, Cond.static yJ7_fill_53178, Cond.initialized RJ7, Cond.code yJ7_fill_53178 cJ7_fill_53178 4 none, Cond.methodLink RX3 46 yX6_worthInto, Cond.instanceMethod yX6_worthInto, Cond.selects RX6 yX6_worthInto yX6_worthInto, Cond.code yX6_worthInto cX6_worthInto 11 none, Cond.methodLink RX6 67 yX0_rateOver, Cond.instanceMethod yX0_rateOver, Cond.selects RX0 yX0_rateOver yX0_rateOver, Cond.code yX0_rateOver cX0_rateOver 1 (some .long)]
def wsX7_best_r4 : List Cond := [Cond.fieldLink RX0 13 "AgainAgain$Game" "over" "J", Cond.methodLink RX6 71 yX0_rateUnder, Cond.instanceMethod yX0_rateUnder, Cond.selects RX0 yX0_rateUnder yX0_rateUnder, Cond.code yX0_rateUnder cX0_rateUnder 1 (some .long), Cond.fieldLink RX0 19 "AgainAgain$Game" "under" "J", Cond.methodLink RX6 74 yX6_power, Cond.static yX6_power, Cond.code yX6_power cX6_power 6 (some .long), Cond.methodLink RX6 78 yX6_weighedAlong, Cond.instanceMethod yX6_weighedAlong, Cond.selects RX6 yX6_weighedAlong yX6_weighedAlong, Cond.code yX6_weighedAlong cX6_weighedAlong 12 (some .long), Cond.methodLink RX6 82 yX4_become, Cond.instanceMethod yX4_become, Cond.selects RX4 yX4_become yX4_become, Cond.initialized RX4, Cond.code yX4_become cX4_become 7 none, Cond.methodLink RX4 16 Lib.MathLoose.abs_long.x, Cond.static Lib.MathLoose.abs_long.x, Cond.initialized "java/lang/Math", Cond.code Lib.MathLoose.abs_long.x Lib.MathLoose.abs_long.code 2 (some .long), Cond.fieldLink RX4 7 "AgainAgain$Ratio" "top" "J", Cond.fieldLink RX4 13 "AgainAgain$Ratio" "bottom" "J"]
def wsX7_best_r5 : List Cond := [Cond.methodLink RX4 22 yX4_greatestShared, Cond.static yX4_greatestShared, Cond.code yX4_greatestShared cX4_greatestShared 11 (some .long), Cond.methodLink RX3 54 yX3_slotOf, Cond.static yX3_slotOf, Cond.code yX3_slotOf cX3_slotOf 2 (some .int), Cond.methodLink RX3 58 yX3_keep, Cond.instanceMethod yX3_keep, Cond.selects RX3 yX3_keep yX3_keep, Cond.code yX3_keep cX3_keep 3 none, Cond.fieldLink RX3 11 "AgainAgain$Plans" "plans" "[I", Cond.fieldLink RX3 15 "AgainAgain$Plans" "tops" "[J", Cond.fieldLink RX3 19 "AgainAgain$Plans" "bottoms" "[J", Cond.methodLink RX3 73 yX4_part, Cond.instanceMethod yX4_part, Cond.selects RX4 yX4_part yX4_part, Cond.code yX4_part cX4_part 2 (some .long), Cond.methodLink RX3 62 yX2_statesOf, Cond.methodLink RX3 66 yX3_plansAgainst, Cond.static yX3_plansAgainst, Cond.code yX3_plansAgainst cX3_plansAgainst 3 (some .int), Cond.methodLink RX3 69 yX3_bestCompared, Cond.instanceMethod yX3_bestCompared, Cond.selects RX3 yX3_bestCompared yX3_bestCompared]
def wsX7_best_r6 : List Cond := [Cond.code yX3_bestCompared cX3_bestCompared 4 (some .int), Cond.methodLink RX3 80 yX4_compareWith, Cond.instanceMethod yX4_compareWith, Cond.selects RX4 yX4_compareWith yX4_compareWith, Cond.code yX4_compareWith cX4_compareWith 5 (some .int), Cond.methodLink RX4 26 yJ13_compare_74951, Cond.static yJ13_compare_74951, Cond.initialized RJ13, Cond.code yJ13_compare_74951 cJ13_compare_74951 4 (some .int), Cond.methodLink RX7 212 yX3_bestPlan, Cond.instanceMethod yX3_bestPlan, Cond.selects RX3 yX3_bestPlan yX3_bestPlan, Cond.code yX3_bestPlan cX3_bestPlan 3 (some .int)]
def wsX7_best : List Cond := .code yX7_best cX7_best 3 (some .int) :: ((wsX7_best_r1 ++ (wsX7_best_r2 ++ (wsX7_best_r3 ++ (wsX7_best_r4 ++ (wsX7_best_r5 ++ wsX7_best_r6))))) ++ wsX70 ++ wsX20 ++ wsX30 ++ wsX60 ++ wsX00 ++ wsX40)
def wsX7_bestWorth_r1 : List Cond := [Cond.fieldLink RX7 19 "AgainAgain" "machines" "LAgainAgain$Machines;", Cond.constantLong RX7 173 (-1000000000000000), Cond.fieldLink RX7 40 "AgainAgain" "plans" "LAgainAgain$Plans;", Cond.fieldLink RX7 10 "AgainAgain" "game" "LAgainAgain$Game;", Cond.methodLink RX7 92 yX2_hasState, Cond.instanceMethod yX2_hasState, Cond.selects RX2 yX2_hasState yX2_hasState, Cond.initialized RX2, Cond.code yX2_hasState cX2_hasState 3 (some .boolean), Cond.fieldLink RX2 9 "AgainAgain$Machines" "sizes" "[I", Cond.methodLink RX2 25 yX2_has, Cond.instanceMethod yX2_has, Cond.selects RX2 yX2_has yX2_has, Cond.code yX2_has cX2_has 2 (some .boolean), Cond.fieldLink RX2 21 "AgainAgain$Machines" "many" "I", Cond.methodLink RX7 72 yX7_within, Cond.static yX7_within, Cond.initialized RX7, Cond.code yX7_within cX7_within 3 (some .boolean), Cond.methodLink RX7 208 yX3_learn, Cond.instanceMethod yX3_learn, Cond.selects RX3 yX3_learn yX3_learn, Cond.initialized RX3, Cond.code yX3_learn cX3_learn 6 none]
def wsX7_bestWorth_r2 : List Cond := [Cond.fieldLink RX3 32 "AgainAgain$Plans" "tried" "LAgainAgain$Ratio;", Cond.methodLink RX3 50 yX3_weigh, Cond.instanceMethod yX3_weigh, Cond.selects RX3 yX3_weigh yX3_weigh, Cond.code yX3_weigh cX3_weigh 7 none, Cond.fieldLink RX3 25 "AgainAgain$Plans" "walk" "LAgainAgain$Walk;", Cond.methodLink RX3 38 yX6_takePlan, Cond.instanceMethod yX6_takePlan, Cond.selects RX6 yX6_takePlan yX6_takePlan, Cond.initialized RX6, Cond.code yX6_takePlan cX6_takePlan 8 none, Cond.fieldLink RX6 11 "AgainAgain$Walk" "nexts" "[I", Cond.fieldLink RX6 15 "AgainAgain$Walk" "gains" "[I", Cond.methodLink RX6 31 yX2_statesOf, Cond.instanceMethod yX2_statesOf, Cond.selects RX2 yX2_statesOf yX2_statesOf, Cond.code yX2_statesOf cX2_statesOf 2 (some .int), Cond.methodLink RX6 42 yX2_nextOf, Cond.instanceMethod yX2_nextOf, Cond.selects RX2 yX2_nextOf yX2_nextOf, Cond.code yX2_nextOf cX2_nextOf 4 (some .int), Cond.fieldLink RX2 18 "AgainAgain$Machines" "nexts" "[I", Cond.methodLink RX6 35 yX2_actionOf, Cond.instanceMethod yX2_actionOf]
def wsX7_bestWorth_r3 : List Cond := [Cond.selects RX2 yX2_actionOf yX2_actionOf, Cond.code yX2_actionOf cX2_actionOf 3 (some .int), Cond.fieldLink RX2 13 "AgainAgain$Machines" "actions" "[I", Cond.methodLink RX6 46 yX0_gain, Cond.instanceMethod yX0_gain, Cond.selects RX0 yX0_gain yX0_gain, Cond.initialized RX0, Cond.code yX0_gain cX0_gain 3 (some .int), Cond.fieldLink RX0 9 "AgainAgain$Game" "gains" "[I", Cond.methodLink RX3 42 yX6_startAt, Cond.instanceMethod yX6_startAt, Cond.selects RX6 yX6_startAt yX6_startAt, Cond.code yX6_startAt cX6_startAt 4 none, Cond.fieldLink RX6 18 "AgainAgain$Walk" "firstMet" "[I", Cond.fieldLink RX6 21 "AgainAgain$Walk" "path" "[I", Cond.fieldLink RX6 24 "AgainAgain$Walk" "tail" "I", Cond.fieldLink RX6 28 "AgainAgain$Walk" "ring" "I", Cond.methodLink RX6 51 yJ7_fill_53178, Cond.static yJ7_fill_53178, Cond.initialized RJ7, Cond.code yJ7_fill_53178 cJ7_fill_53178 4 none, Cond.methodLink RX3 46 yX6_worthInto, Cond.instanceMethod yX6_worthInto, Cond.selects RX6 yX6_worthInto yX6_worthInto]
def wsX7_bestWorth_r4 : List Cond := [Cond.code yX6_worthInto cX6_worthInto 11 none, Cond.methodLink RX6 67 yX0_rateOver, Cond.instanceMethod yX0_rateOver, Cond.selects RX0 yX0_rateOver yX0_rateOver, Cond.code yX0_rateOver cX0_rateOver 1 (some .long), Cond.fieldLink RX0 13 "AgainAgain$Game" "over" "J", Cond.methodLink RX6 71 yX0_rateUnder, Cond.instanceMethod yX0_rateUnder, Cond.selects RX0 yX0_rateUnder yX0_rateUnder, Cond.code yX0_rateUnder cX0_rateUnder 1 (some .long), Cond.fieldLink RX0 19 "AgainAgain$Game" "under" "J", Cond.methodLink RX6 74 yX6_power, Cond.static yX6_power, Cond.code yX6_power cX6_power 6 (some .long), Cond.methodLink RX6 78 yX6_weighedAlong, Cond.instanceMethod yX6_weighedAlong, Cond.selects RX6 yX6_weighedAlong yX6_weighedAlong, Cond.code yX6_weighedAlong cX6_weighedAlong 12 (some .long), Cond.methodLink RX6 82 yX4_become, Cond.instanceMethod yX4_become, Cond.selects RX4 yX4_become yX4_become, Cond.initialized RX4, Cond.code yX4_become cX4_become 7 none, Cond.methodLink RX4 16 Lib.MathLoose.abs_long.x]
def wsX7_bestWorth_r5 : List Cond := [Cond.static Lib.MathLoose.abs_long.x, Cond.initialized "java/lang/Math", Cond.code Lib.MathLoose.abs_long.x Lib.MathLoose.abs_long.code 2 (some .long), Cond.fieldLink RX4 7 "AgainAgain$Ratio" "top" "J", Cond.fieldLink RX4 13 "AgainAgain$Ratio" "bottom" "J", Cond.methodLink RX4 22 yX4_greatestShared, Cond.static yX4_greatestShared, Cond.code yX4_greatestShared cX4_greatestShared 11 (some .long), Cond.methodLink RX3 54 yX3_slotOf, Cond.static yX3_slotOf, Cond.code yX3_slotOf cX3_slotOf 2 (some .int), Cond.methodLink RX3 58 yX3_keep, Cond.instanceMethod yX3_keep, Cond.selects RX3 yX3_keep yX3_keep, Cond.code yX3_keep cX3_keep 3 none, Cond.fieldLink RX3 11 "AgainAgain$Plans" "plans" "[I", Cond.fieldLink RX3 15 "AgainAgain$Plans" "tops" "[J", Cond.fieldLink RX3 19 "AgainAgain$Plans" "bottoms" "[J", Cond.methodLink RX3 73 yX4_part, Cond.instanceMethod yX4_part, Cond.selects RX4 yX4_part yX4_part, Cond.code yX4_part cX4_part 2 (some .long), Cond.methodLink RX3 62 yX2_statesOf, Cond.methodLink RX3 66 yX3_plansAgainst]
def wsX7_bestWorth_r6 : List Cond := [Cond.static yX3_plansAgainst, Cond.code yX3_plansAgainst cX3_plansAgainst 3 (some .int), Cond.methodLink RX3 69 yX3_bestCompared, Cond.instanceMethod yX3_bestCompared, Cond.selects RX3 yX3_bestCompared yX3_bestCompared, Cond.code yX3_bestCompared cX3_bestCompared 4 (some .int), Cond.methodLink RX3 80 yX4_compareWith, Cond.instanceMethod yX4_compareWith, Cond.selects RX4 yX4_compareWith yX4_compareWith, Cond.code yX4_compareWith cX4_compareWith 5 (some .int), Cond.methodLink RX4 26 yJ13_compare_74951, Cond.static yJ13_compare_74951, Cond.initialized RJ13, Cond.code yJ13_compare_74951 cJ13_compare_74951 4 (some .int), Cond.methodLink RX7 215 yX3_bestPart, Cond.instanceMethod yX3_bestPart, Cond.selects RX3 yX3_bestPart yX3_bestPart, Cond.code yX3_bestPart cX3_bestPart 4 (some .long)]
def wsX7_bestWorth : List Cond := .code yX7_bestWorth cX7_bestWorth 4 (some .long) :: ((wsX7_bestWorth_r1 ++ (wsX7_bestWorth_r2 ++ (wsX7_bestWorth_r3 ++ (wsX7_bestWorth_r4 ++ (wsX7_bestWorth_r5 ++ wsX7_bestWorth_r6))))) ++ wsX70 ++ wsX20 ++ wsX30 ++ wsX60 ++ wsX00 ++ wsX40)
def wsX7_planWorth_r1 : List Cond := [Cond.fieldLink RX7 19 "AgainAgain" "machines" "LAgainAgain$Machines;", Cond.constantLong RX7 173 (-1000000000000000), Cond.fieldLink RX7 40 "AgainAgain" "plans" "LAgainAgain$Plans;", Cond.fieldLink RX7 10 "AgainAgain" "game" "LAgainAgain$Game;", Cond.fieldLink RX7 57 "AgainAgain" "ratio" "LAgainAgain$Ratio;", Cond.methodLink RX7 92 yX2_hasState, Cond.instanceMethod yX2_hasState, Cond.selects RX2 yX2_hasState yX2_hasState, Cond.initialized RX2, Cond.code yX2_hasState cX2_hasState 3 (some .boolean), Cond.fieldLink RX2 9 "AgainAgain$Machines" "sizes" "[I", Cond.methodLink RX2 25 yX2_has, Cond.instanceMethod yX2_has, Cond.selects RX2 yX2_has yX2_has, Cond.code yX2_has cX2_has 2 (some .boolean), Cond.fieldLink RX2 21 "AgainAgain$Machines" "many" "I", Cond.methodLink RX7 72 yX7_within, Cond.static yX7_within, Cond.initialized RX7, Cond.code yX7_within cX7_within 3 (some .boolean), Cond.methodLink RX7 219 yX2_statesOf, Cond.instanceMethod yX2_statesOf, Cond.selects RX2 yX2_statesOf yX2_statesOf, Cond.code yX2_statesOf cX2_statesOf 2 (some .int)]
def wsX7_planWorth_r2 : List Cond := [Cond.methodLink RX7 222 yX3_plansAgainst, Cond.static yX3_plansAgainst, Cond.initialized RX3, Cond.code yX3_plansAgainst cX3_plansAgainst 3 (some .int), Cond.methodLink RX7 225 yX3_weigh, Cond.instanceMethod yX3_weigh, Cond.selects RX3 yX3_weigh yX3_weigh, Cond.code yX3_weigh cX3_weigh 7 none, Cond.fieldLink RX3 25 "AgainAgain$Plans" "walk" "LAgainAgain$Walk;", Cond.methodLink RX3 38 yX6_takePlan, Cond.instanceMethod yX6_takePlan, Cond.selects RX6 yX6_takePlan yX6_takePlan, Cond.initialized RX6, Cond.code yX6_takePlan cX6_takePlan 8 none, Cond.fieldLink RX6 11 "AgainAgain$Walk" "nexts" "[I", Cond.fieldLink RX6 15 "AgainAgain$Walk" "gains" "[I", Cond.methodLink RX6 31 yX2_statesOf, Cond.methodLink RX6 42 yX2_nextOf, Cond.instanceMethod yX2_nextOf, Cond.selects RX2 yX2_nextOf yX2_nextOf, Cond.code yX2_nextOf cX2_nextOf 4 (some .int), Cond.fieldLink RX2 18 "AgainAgain$Machines" "nexts" "[I", Cond.methodLink RX6 35 yX2_actionOf, Cond.instanceMethod yX2_actionOf]
def wsX7_planWorth_r3 : List Cond := [Cond.selects RX2 yX2_actionOf yX2_actionOf, Cond.code yX2_actionOf cX2_actionOf 3 (some .int), Cond.fieldLink RX2 13 "AgainAgain$Machines" "actions" "[I", Cond.methodLink RX6 46 yX0_gain, Cond.instanceMethod yX0_gain, Cond.selects RX0 yX0_gain yX0_gain, Cond.initialized RX0, Cond.code yX0_gain cX0_gain 3 (some .int), Cond.fieldLink RX0 9 "AgainAgain$Game" "gains" "[I", Cond.methodLink RX3 42 yX6_startAt, Cond.instanceMethod yX6_startAt, Cond.selects RX6 yX6_startAt yX6_startAt, Cond.code yX6_startAt cX6_startAt 4 none, Cond.fieldLink RX6 18 "AgainAgain$Walk" "firstMet" "[I", Cond.fieldLink RX6 21 "AgainAgain$Walk" "path" "[I", Cond.fieldLink RX6 24 "AgainAgain$Walk" "tail" "I", Cond.fieldLink RX6 28 "AgainAgain$Walk" "ring" "I", Cond.methodLink RX6 51 yJ7_fill_53178, Cond.static yJ7_fill_53178, Cond.initialized RJ7, Cond.code yJ7_fill_53178 cJ7_fill_53178 4 none, Cond.methodLink RX3 46 yX6_worthInto, Cond.instanceMethod yX6_worthInto, Cond.selects RX6 yX6_worthInto yX6_worthInto]
def wsX7_planWorth_r4 : List Cond := [Cond.code yX6_worthInto cX6_worthInto 11 none, Cond.methodLink RX6 67 yX0_rateOver, Cond.instanceMethod yX0_rateOver, Cond.selects RX0 yX0_rateOver yX0_rateOver, Cond.code yX0_rateOver cX0_rateOver 1 (some .long), Cond.fieldLink RX0 13 "AgainAgain$Game" "over" "J", Cond.methodLink RX6 71 yX0_rateUnder, Cond.instanceMethod yX0_rateUnder, Cond.selects RX0 yX0_rateUnder yX0_rateUnder, Cond.code yX0_rateUnder cX0_rateUnder 1 (some .long), Cond.fieldLink RX0 19 "AgainAgain$Game" "under" "J", Cond.methodLink RX6 74 yX6_power, Cond.static yX6_power, Cond.code yX6_power cX6_power 6 (some .long), Cond.methodLink RX6 78 yX6_weighedAlong, Cond.instanceMethod yX6_weighedAlong, Cond.selects RX6 yX6_weighedAlong yX6_weighedAlong, Cond.code yX6_weighedAlong cX6_weighedAlong 12 (some .long), Cond.methodLink RX6 82 yX4_become, Cond.instanceMethod yX4_become, Cond.selects RX4 yX4_become yX4_become, Cond.initialized RX4, Cond.code yX4_become cX4_become 7 none, Cond.methodLink RX4 16 Lib.MathLoose.abs_long.x]
def wsX7_planWorth_r5 : List Cond := [Cond.static Lib.MathLoose.abs_long.x, Cond.initialized "java/lang/Math", Cond.code Lib.MathLoose.abs_long.x Lib.MathLoose.abs_long.code 2 (some .long), Cond.fieldLink RX4 7 "AgainAgain$Ratio" "top" "J", Cond.fieldLink RX4 13 "AgainAgain$Ratio" "bottom" "J", Cond.methodLink RX4 22 yX4_greatestShared, Cond.static yX4_greatestShared, Cond.code yX4_greatestShared cX4_greatestShared 11 (some .long), Cond.methodLink RX7 179 yX4_part, Cond.instanceMethod yX4_part, Cond.selects RX4 yX4_part yX4_part, Cond.code yX4_part cX4_part 2 (some .long)]
def wsX7_planWorth : List Cond := .code yX7_planWorth cX7_planWorth 5 (some .long) :: ((wsX7_planWorth_r1 ++ (wsX7_planWorth_r2 ++ (wsX7_planWorth_r3 ++ (wsX7_planWorth_r4 ++ wsX7_planWorth_r5)))) ++ wsX70 ++ wsX20 ++ wsX30 ++ wsX60 ++ wsX00 ++ wsX40)
def wsX7_takeBothSides_r1 : List Cond := [Cond.fieldLink RX7 47 "AgainAgain" "walk" "LAgainAgain$Walk;", Cond.fieldLink RX7 10 "AgainAgain" "game" "LAgainAgain$Game;", Cond.fieldLink RX7 19 "AgainAgain" "machines" "LAgainAgain$Machines;", Cond.fieldLink RX7 51 "AgainAgain" "back" "LAgainAgain$Walk;", Cond.methodLink RX7 272 yX6_takeMatch, Cond.instanceMethod yX6_takeMatch, Cond.selects RX6 yX6_takeMatch yX6_takeMatch, Cond.initialized RX6, Cond.code yX6_takeMatch cX6_takeMatch 9 none, Cond.fieldLink RX6 11 "AgainAgain$Walk" "nexts" "[I", Cond.fieldLink RX6 15 "AgainAgain$Walk" "gains" "[I", Cond.methodLink RX6 31 yX2_statesOf, Cond.instanceMethod yX2_statesOf, Cond.selects RX2 yX2_statesOf yX2_statesOf, Cond.initialized RX2, Cond.code yX2_statesOf cX2_statesOf 2 (some .int), Cond.fieldLink RX2 9 "AgainAgain$Machines" "sizes" "[I", Cond.methodLink RX6 35 yX2_actionOf, Cond.instanceMethod yX2_actionOf, Cond.selects RX2 yX2_actionOf yX2_actionOf, Cond.code yX2_actionOf cX2_actionOf 3 (some .int), Cond.fieldLink RX2 13 "AgainAgain$Machines" "actions" "[I", Cond.methodLink RX6 39 yX6_placeOf, Cond.static yX6_placeOf]
def wsX7_takeBothSides_r2 : List Cond := [Cond.code yX6_placeOf cX6_placeOf 2 (some .int), Cond.methodLink RX6 42 yX2_nextOf, Cond.instanceMethod yX2_nextOf, Cond.selects RX2 yX2_nextOf yX2_nextOf, Cond.code yX2_nextOf cX2_nextOf 4 (some .int), Cond.fieldLink RX2 18 "AgainAgain$Machines" "nexts" "[I", Cond.methodLink RX6 46 yX0_gain, Cond.instanceMethod yX0_gain, Cond.selects RX0 yX0_gain yX0_gain, Cond.initialized RX0, Cond.code yX0_gain cX0_gain 3 (some .int), Cond.fieldLink RX0 9 "AgainAgain$Game" "gains" "[I"]
def wsX7_takeBothSides : List Cond := .code yX7_takeBothSides cX7_takeBothSides 3 none :: ((wsX7_takeBothSides_r1 ++ wsX7_takeBothSides_r2) ++ wsX70 ++ wsX60 ++ wsX20 ++ wsX00)
def wsX7_gainsByPlan_r1 : List Cond := [Cond.fieldLink RX7 10 "AgainAgain" "game" "LAgainAgain$Game;", Cond.fieldLink RX7 57 "AgainAgain" "ratio" "LAgainAgain$Ratio;", Cond.fieldLink RX7 40 "AgainAgain" "plans" "LAgainAgain$Plans;", Cond.methodLink RX7 275 yX6_startAt, Cond.instanceMethod yX6_startAt, Cond.selects RX6 yX6_startAt yX6_startAt, Cond.initialized RX6, Cond.code yX6_startAt cX6_startAt 4 none, Cond.fieldLink RX6 18 "AgainAgain$Walk" "firstMet" "[I", Cond.fieldLink RX6 21 "AgainAgain$Walk" "path" "[I", Cond.fieldLink RX6 11 "AgainAgain$Walk" "nexts" "[I", Cond.fieldLink RX6 24 "AgainAgain$Walk" "tail" "I", Cond.fieldLink RX6 28 "AgainAgain$Walk" "ring" "I", Cond.methodLink RX6 51 yJ7_fill_53178, Cond.static yJ7_fill_53178, Cond.initialized RJ7, Cond.code yJ7_fill_53178 cJ7_fill_53178 4 none, Cond.methodLink RX7 282 yX6_worthInto, Cond.instanceMethod yX6_worthInto, Cond.selects RX6 yX6_worthInto yX6_worthInto, Cond.code yX6_worthInto cX6_worthInto 11 none, Cond.methodLink RX6 67 yX0_rateOver, Cond.instanceMethod yX0_rateOver, Cond.selects RX0 yX0_rateOver yX0_rateOver]
def wsX7_gainsByPlan_r2 : List Cond := [Cond.initialized RX0, Cond.code yX0_rateOver cX0_rateOver 1 (some .long), Cond.fieldLink RX0 13 "AgainAgain$Game" "over" "J", Cond.methodLink RX6 71 yX0_rateUnder, Cond.instanceMethod yX0_rateUnder, Cond.selects RX0 yX0_rateUnder yX0_rateUnder, Cond.code yX0_rateUnder cX0_rateUnder 1 (some .long), Cond.fieldLink RX0 19 "AgainAgain$Game" "under" "J", Cond.methodLink RX6 74 yX6_power, Cond.static yX6_power, Cond.code yX6_power cX6_power 6 (some .long), Cond.methodLink RX6 78 yX6_weighedAlong, Cond.instanceMethod yX6_weighedAlong, Cond.selects RX6 yX6_weighedAlong yX6_weighedAlong, Cond.code yX6_weighedAlong cX6_weighedAlong 12 (some .long), Cond.fieldLink RX6 15 "AgainAgain$Walk" "gains" "[I", Cond.methodLink RX6 82 yX4_become, Cond.instanceMethod yX4_become, Cond.selects RX4 yX4_become yX4_become, Cond.initialized RX4, Cond.code yX4_become cX4_become 7 none, Cond.methodLink RX4 16 Lib.MathLoose.abs_long.x, Cond.static Lib.MathLoose.abs_long.x, Cond.initialized "java/lang/Math"]
def wsX7_gainsByPlan_r3 : List Cond := [Cond.code Lib.MathLoose.abs_long.x Lib.MathLoose.abs_long.code 2 (some .long), Cond.fieldLink RX4 7 "AgainAgain$Ratio" "top" "J", Cond.fieldLink RX4 13 "AgainAgain$Ratio" "bottom" "J", Cond.methodLink RX4 22 yX4_greatestShared, Cond.static yX4_greatestShared, Cond.code yX4_greatestShared cX4_greatestShared 11 (some .long), Cond.methodLink RX7 289 yX3_bestCompared, Cond.instanceMethod yX3_bestCompared, Cond.selects RX3 yX3_bestCompared yX3_bestCompared, Cond.initialized RX3, Cond.code yX3_bestCompared cX3_bestCompared 4 (some .int), Cond.fieldLink RX3 15 "AgainAgain$Plans" "tops" "[J", Cond.fieldLink RX3 19 "AgainAgain$Plans" "bottoms" "[J", Cond.methodLink RX3 54 yX3_slotOf, Cond.static yX3_slotOf, Cond.code yX3_slotOf cX3_slotOf 2 (some .int), Cond.methodLink RX3 80 yX4_compareWith, Cond.instanceMethod yX4_compareWith, Cond.selects RX4 yX4_compareWith yX4_compareWith, Cond.code yX4_compareWith cX4_compareWith 5 (some .int), Cond.methodLink RX4 26 yJ13_compare_74951, Cond.static yJ13_compare_74951, Cond.initialized RJ13, Cond.code yJ13_compare_74951 cJ13_compare_74951 4 (some .int)]
def wsX7_gainsByPlan : List Cond := .code yX7_gainsByPlan cX7_gainsByPlan 5 (some .boolean) :: ((wsX7_gainsByPlan_r1 ++ (wsX7_gainsByPlan_r2 ++ wsX7_gainsByPlan_r3)) ++ wsX70 ++ wsX60 ++ wsX00 ++ wsX40 ++ wsX30)
def wsX7_restFrom_r1 : List Cond := [Cond.fieldLink RX7 47 "AgainAgain" "walk" "LAgainAgain$Walk;", Cond.fieldLink RX7 51 "AgainAgain" "back" "LAgainAgain$Walk;", Cond.methodLink RX7 286 yX6_placeOf, Cond.static yX6_placeOf, Cond.initialized RX6, Cond.code yX6_placeOf cX6_placeOf 2 (some .int), Cond.methodLink RX7 293 yX7_gainsByPlan, Cond.instanceMethod yX7_gainsByPlan, Cond.selects RX7 yX7_gainsByPlan yX7_gainsByPlan, Cond.initialized RX7, Cond.code yX7_gainsByPlan cX7_gainsByPlan 5 (some .boolean), Cond.fieldLink RX7 10 "AgainAgain" "game" "LAgainAgain$Game;", Cond.fieldLink RX7 57 "AgainAgain" "ratio" "LAgainAgain$Ratio;", Cond.fieldLink RX7 40 "AgainAgain" "plans" "LAgainAgain$Plans;", Cond.methodLink RX7 275 yX6_startAt, Cond.instanceMethod yX6_startAt, Cond.selects RX6 yX6_startAt yX6_startAt, Cond.code yX6_startAt cX6_startAt 4 none, Cond.fieldLink RX6 18 "AgainAgain$Walk" "firstMet" "[I", Cond.fieldLink RX6 21 "AgainAgain$Walk" "path" "[I", Cond.fieldLink RX6 11 "AgainAgain$Walk" "nexts" "[I", Cond.fieldLink RX6 24 "AgainAgain$Walk" "tail" "I", Cond.fieldLink RX6 28 "AgainAgain$Walk" "ring" "I", Cond.methodLink RX6 51 yJ7_fill_53178]
def wsX7_restFrom_r2 : List Cond := [Cond.static yJ7_fill_53178, Cond.initialized RJ7, Cond.code yJ7_fill_53178 cJ7_fill_53178 4 none, Cond.methodLink RX7 282 yX6_worthInto, Cond.instanceMethod yX6_worthInto, Cond.selects RX6 yX6_worthInto yX6_worthInto, Cond.code yX6_worthInto cX6_worthInto 11 none, Cond.methodLink RX6 67 yX0_rateOver, Cond.instanceMethod yX0_rateOver, Cond.selects RX0 yX0_rateOver yX0_rateOver, Cond.initialized RX0, Cond.code yX0_rateOver cX0_rateOver 1 (some .long), Cond.fieldLink RX0 13 "AgainAgain$Game" "over" "J", Cond.methodLink RX6 71 yX0_rateUnder, Cond.instanceMethod yX0_rateUnder, Cond.selects RX0 yX0_rateUnder yX0_rateUnder, Cond.code yX0_rateUnder cX0_rateUnder 1 (some .long), Cond.fieldLink RX0 19 "AgainAgain$Game" "under" "J", Cond.methodLink RX6 74 yX6_power, Cond.static yX6_power, Cond.code yX6_power cX6_power 6 (some .long), Cond.methodLink RX6 78 yX6_weighedAlong, Cond.instanceMethod yX6_weighedAlong, Cond.selects RX6 yX6_weighedAlong yX6_weighedAlong]
def wsX7_restFrom_r3 : List Cond := [Cond.code yX6_weighedAlong cX6_weighedAlong 12 (some .long), Cond.fieldLink RX6 15 "AgainAgain$Walk" "gains" "[I", Cond.methodLink RX6 82 yX4_become, Cond.instanceMethod yX4_become, Cond.selects RX4 yX4_become yX4_become, Cond.initialized RX4, Cond.code yX4_become cX4_become 7 none, Cond.methodLink RX4 16 Lib.MathLoose.abs_long.x, Cond.static Lib.MathLoose.abs_long.x, Cond.initialized "java/lang/Math", Cond.code Lib.MathLoose.abs_long.x Lib.MathLoose.abs_long.code 2 (some .long), Cond.fieldLink RX4 7 "AgainAgain$Ratio" "top" "J", Cond.fieldLink RX4 13 "AgainAgain$Ratio" "bottom" "J", Cond.methodLink RX4 22 yX4_greatestShared, Cond.static yX4_greatestShared, Cond.code yX4_greatestShared cX4_greatestShared 11 (some .long), Cond.methodLink RX7 289 yX3_bestCompared, Cond.instanceMethod yX3_bestCompared, Cond.selects RX3 yX3_bestCompared yX3_bestCompared, Cond.initialized RX3, Cond.code yX3_bestCompared cX3_bestCompared 4 (some .int), Cond.fieldLink RX3 15 "AgainAgain$Plans" "tops" "[J", Cond.fieldLink RX3 19 "AgainAgain$Plans" "bottoms" "[J", Cond.methodLink RX3 54 yX3_slotOf]
def wsX7_restFrom_r4 : List Cond := [Cond.static yX3_slotOf, Cond.code yX3_slotOf cX3_slotOf 2 (some .int), Cond.methodLink RX3 80 yX4_compareWith, Cond.instanceMethod yX4_compareWith, Cond.selects RX4 yX4_compareWith yX4_compareWith, Cond.code yX4_compareWith cX4_compareWith 5 (some .int), Cond.methodLink RX4 26 yJ13_compare_74951, Cond.static yJ13_compare_74951, Cond.initialized RJ13, Cond.code yJ13_compare_74951 cJ13_compare_74951 4 (some .int)]
def wsX7_restFrom : List Cond := .code yX7_restFrom cX7_restFrom 5 (some .boolean) :: ((wsX7_restFrom_r1 ++ (wsX7_restFrom_r2 ++ (wsX7_restFrom_r3 ++ wsX7_restFrom_r4))) ++ wsX70 ++ wsX60 ++ wsX00 ++ wsX40 ++ wsX30)
def wsX7_rest_r1 : List Cond := [Cond.fieldLink RX7 40 "AgainAgain" "plans" "LAgainAgain$Plans;", Cond.fieldLink RX7 10 "AgainAgain" "game" "LAgainAgain$Game;", Cond.fieldLink RX7 19 "AgainAgain" "machines" "LAgainAgain$Machines;", Cond.methodLink RX7 145 yX7_areMachines, Cond.instanceMethod yX7_areMachines, Cond.selects RX7 yX7_areMachines yX7_areMachines, Cond.initialized RX7, Cond.code yX7_areMachines cX7_areMachines 3 (some .boolean), Cond.methodLink RX7 201 yX2_has, Cond.instanceMethod yX2_has, Cond.selects RX2 yX2_has yX2_has, Cond.initialized RX2, Cond.code yX2_has cX2_has 2 (some .boolean), Cond.fieldLink RX2 21 "AgainAgain$Machines" "many" "I", Cond.methodLink RX7 208 yX3_learn, Cond.instanceMethod yX3_learn, Cond.selects RX3 yX3_learn yX3_learn, Cond.initialized RX3, Cond.code yX3_learn cX3_learn 6 none, Cond.fieldLink RX3 32 "AgainAgain$Plans" "tried" "LAgainAgain$Ratio;", Cond.methodLink RX3 50 yX3_weigh, Cond.instanceMethod yX3_weigh, Cond.selects RX3 yX3_weigh yX3_weigh, Cond.code yX3_weigh cX3_weigh 7 none]
def wsX7_rest_r2 : List Cond := [Cond.fieldLink RX3 25 "AgainAgain$Plans" "walk" "LAgainAgain$Walk;", Cond.methodLink RX3 38 yX6_takePlan, Cond.instanceMethod yX6_takePlan, Cond.selects RX6 yX6_takePlan yX6_takePlan, Cond.initialized RX6, Cond.code yX6_takePlan cX6_takePlan 8 none, Cond.fieldLink RX6 11 "AgainAgain$Walk" "nexts" "[I", Cond.fieldLink RX6 15 "AgainAgain$Walk" "gains" "[I", Cond.methodLink RX6 31 yX2_statesOf, Cond.instanceMethod yX2_statesOf, Cond.selects RX2 yX2_statesOf yX2_statesOf, Cond.code yX2_statesOf cX2_statesOf 2 (some .int), Cond.fieldLink RX2 9 "AgainAgain$Machines" "sizes" "[I", Cond.methodLink RX6 42 yX2_nextOf, Cond.instanceMethod yX2_nextOf, Cond.selects RX2 yX2_nextOf yX2_nextOf, Cond.code yX2_nextOf cX2_nextOf 4 (some .int), Cond.fieldLink RX2 18 "AgainAgain$Machines" "nexts" "[I", Cond.methodLink RX6 35 yX2_actionOf, Cond.instanceMethod yX2_actionOf, Cond.selects RX2 yX2_actionOf yX2_actionOf, Cond.code yX2_actionOf cX2_actionOf 3 (some .int), Cond.fieldLink RX2 13 "AgainAgain$Machines" "actions" "[I", Cond.methodLink RX6 46 yX0_gain]
def wsX7_rest_r3 : List Cond := [Cond.instanceMethod yX0_gain, Cond.selects RX0 yX0_gain yX0_gain, Cond.initialized RX0, Cond.code yX0_gain cX0_gain 3 (some .int), Cond.fieldLink RX0 9 "AgainAgain$Game" "gains" "[I", Cond.methodLink RX3 42 yX6_startAt, Cond.instanceMethod yX6_startAt, Cond.selects RX6 yX6_startAt yX6_startAt, Cond.code yX6_startAt cX6_startAt 4 none, Cond.fieldLink RX6 18 "AgainAgain$Walk" "firstMet" "[I", Cond.fieldLink RX6 21 "AgainAgain$Walk" "path" "[I", Cond.fieldLink RX6 24 "AgainAgain$Walk" "tail" "I", Cond.fieldLink RX6 28 "AgainAgain$Walk" "ring" "I", Cond.methodLink RX6 51 yJ7_fill_53178, Cond.static yJ7_fill_53178, Cond.initialized RJ7, Cond.code yJ7_fill_53178 cJ7_fill_53178 4 none, Cond.methodLink RX3 46 yX6_worthInto, Cond.instanceMethod yX6_worthInto, Cond.selects RX6 yX6_worthInto yX6_worthInto, Cond.code yX6_worthInto cX6_worthInto 11 none, Cond.methodLink RX6 67 yX0_rateOver, Cond.instanceMethod yX0_rateOver, Cond.selects RX0 yX0_rateOver yX0_rateOver]
def wsX7_rest_r4 : List Cond := [Cond.code yX0_rateOver cX0_rateOver 1 (some .long), Cond.fieldLink RX0 13 "AgainAgain$Game" "over" "J", Cond.methodLink RX6 71 yX0_rateUnder, Cond.instanceMethod yX0_rateUnder, Cond.selects RX0 yX0_rateUnder yX0_rateUnder, Cond.code yX0_rateUnder cX0_rateUnder 1 (some .long), Cond.fieldLink RX0 19 "AgainAgain$Game" "under" "J", Cond.methodLink RX6 74 yX6_power, Cond.static yX6_power, Cond.code yX6_power cX6_power 6 (some .long), Cond.methodLink RX6 78 yX6_weighedAlong, Cond.instanceMethod yX6_weighedAlong, Cond.selects RX6 yX6_weighedAlong yX6_weighedAlong, Cond.code yX6_weighedAlong cX6_weighedAlong 12 (some .long), Cond.methodLink RX6 82 yX4_become, Cond.instanceMethod yX4_become, Cond.selects RX4 yX4_become yX4_become, Cond.initialized RX4, Cond.code yX4_become cX4_become 7 none, Cond.methodLink RX4 16 Lib.MathLoose.abs_long.x, Cond.static Lib.MathLoose.abs_long.x, Cond.initialized "java/lang/Math", Cond.code Lib.MathLoose.abs_long.x Lib.MathLoose.abs_long.code 2 (some .long), Cond.fieldLink RX4 7 "AgainAgain$Ratio" "top" "J"]
def wsX7_rest_r5 : List Cond := [Cond.fieldLink RX4 13 "AgainAgain$Ratio" "bottom" "J", Cond.methodLink RX4 22 yX4_greatestShared, Cond.static yX4_greatestShared, Cond.code yX4_greatestShared cX4_greatestShared 11 (some .long), Cond.methodLink RX3 54 yX3_slotOf, Cond.static yX3_slotOf, Cond.code yX3_slotOf cX3_slotOf 2 (some .int), Cond.methodLink RX3 58 yX3_keep, Cond.instanceMethod yX3_keep, Cond.selects RX3 yX3_keep yX3_keep, Cond.code yX3_keep cX3_keep 3 none, Cond.fieldLink RX3 11 "AgainAgain$Plans" "plans" "[I", Cond.fieldLink RX3 15 "AgainAgain$Plans" "tops" "[J", Cond.fieldLink RX3 19 "AgainAgain$Plans" "bottoms" "[J", Cond.methodLink RX3 73 yX4_part, Cond.instanceMethod yX4_part, Cond.selects RX4 yX4_part yX4_part, Cond.code yX4_part cX4_part 2 (some .long), Cond.methodLink RX3 62 yX2_statesOf, Cond.methodLink RX3 66 yX3_plansAgainst, Cond.static yX3_plansAgainst, Cond.code yX3_plansAgainst cX3_plansAgainst 3 (some .int), Cond.methodLink RX3 69 yX3_bestCompared, Cond.instanceMethod yX3_bestCompared]
def wsX7_rest_r6 : List Cond := [Cond.selects RX3 yX3_bestCompared yX3_bestCompared, Cond.code yX3_bestCompared cX3_bestCompared 4 (some .int), Cond.methodLink RX3 80 yX4_compareWith, Cond.instanceMethod yX4_compareWith, Cond.selects RX4 yX4_compareWith yX4_compareWith, Cond.code yX4_compareWith cX4_compareWith 5 (some .int), Cond.methodLink RX4 26 yJ13_compare_74951, Cond.static yJ13_compare_74951, Cond.initialized RJ13, Cond.code yJ13_compare_74951 cJ13_compare_74951 4 (some .int), Cond.methodLink RX7 229 yX7_takeBothSides, Cond.instanceMethod yX7_takeBothSides, Cond.selects RX7 yX7_takeBothSides yX7_takeBothSides, Cond.code yX7_takeBothSides cX7_takeBothSides 3 none, Cond.fieldLink RX7 47 "AgainAgain" "walk" "LAgainAgain$Walk;", Cond.fieldLink RX7 51 "AgainAgain" "back" "LAgainAgain$Walk;", Cond.methodLink RX7 272 yX6_takeMatch, Cond.instanceMethod yX6_takeMatch, Cond.selects RX6 yX6_takeMatch yX6_takeMatch, Cond.code yX6_takeMatch cX6_takeMatch 9 none, Cond.methodLink RX6 39 yX6_placeOf, Cond.static yX6_placeOf, Cond.code yX6_placeOf cX6_placeOf 2 (some .int), Cond.methodLink RX7 232 yX7_restFrom]
def wsX7_rest_r7 : List Cond := [Cond.instanceMethod yX7_restFrom, Cond.selects RX7 yX7_restFrom yX7_restFrom, Cond.code yX7_restFrom cX7_restFrom 5 (some .boolean), Cond.methodLink RX7 286 yX6_placeOf, Cond.methodLink RX7 293 yX7_gainsByPlan, Cond.instanceMethod yX7_gainsByPlan, Cond.selects RX7 yX7_gainsByPlan yX7_gainsByPlan, Cond.code yX7_gainsByPlan cX7_gainsByPlan 5 (some .boolean), Cond.fieldLink RX7 57 "AgainAgain" "ratio" "LAgainAgain$Ratio;", Cond.methodLink RX7 275 yX6_startAt, Cond.methodLink RX7 282 yX6_worthInto, Cond.methodLink RX7 289 yX3_bestCompared, Cond.methodLink RX7 197 yX7_oneIf, Cond.static yX7_oneIf, Cond.code yX7_oneIf cX7_oneIf 1 (some .int)]
def wsX7_rest : List Cond := .code yX7_rest cX7_rest 3 (some .int) :: ((wsX7_rest_r1 ++ (wsX7_rest_r2 ++ (wsX7_rest_r3 ++ (wsX7_rest_r4 ++ (wsX7_rest_r5 ++ (wsX7_rest_r6 ++ wsX7_rest_r7)))))) ++ wsX70 ++ wsX20 ++ wsX30 ++ wsX60 ++ wsX00 ++ wsX40)
def wsX7_firstUnrest_r1 : List Cond := [Cond.fieldLink RX7 19 "AgainAgain" "machines" "LAgainAgain$Machines;", Cond.methodLink RX7 219 yX2_statesOf, Cond.instanceMethod yX2_statesOf, Cond.selects RX2 yX2_statesOf yX2_statesOf, Cond.initialized RX2, Cond.code yX2_statesOf cX2_statesOf 2 (some .int), Cond.fieldLink RX2 9 "AgainAgain$Machines" "sizes" "[I", Cond.methodLink RX7 232 yX7_restFrom, Cond.instanceMethod yX7_restFrom, Cond.selects RX7 yX7_restFrom yX7_restFrom, Cond.initialized RX7, Cond.code yX7_restFrom cX7_restFrom 5 (some .boolean), Cond.fieldLink RX7 47 "AgainAgain" "walk" "LAgainAgain$Walk;", Cond.fieldLink RX7 51 "AgainAgain" "back" "LAgainAgain$Walk;", Cond.methodLink RX7 286 yX6_placeOf, Cond.static yX6_placeOf, Cond.initialized RX6, Cond.code yX6_placeOf cX6_placeOf 2 (some .int), Cond.methodLink RX7 293 yX7_gainsByPlan, Cond.instanceMethod yX7_gainsByPlan, Cond.selects RX7 yX7_gainsByPlan yX7_gainsByPlan, Cond.code yX7_gainsByPlan cX7_gainsByPlan 5 (some .boolean), Cond.fieldLink RX7 10 "AgainAgain" "game" "LAgainAgain$Game;", Cond.fieldLink RX7 57 "AgainAgain" "ratio" "LAgainAgain$Ratio;"]
def wsX7_firstUnrest_r2 : List Cond := [Cond.fieldLink RX7 40 "AgainAgain" "plans" "LAgainAgain$Plans;", Cond.methodLink RX7 275 yX6_startAt, Cond.instanceMethod yX6_startAt, Cond.selects RX6 yX6_startAt yX6_startAt, Cond.code yX6_startAt cX6_startAt 4 none, Cond.fieldLink RX6 18 "AgainAgain$Walk" "firstMet" "[I", Cond.fieldLink RX6 21 "AgainAgain$Walk" "path" "[I", Cond.fieldLink RX6 11 "AgainAgain$Walk" "nexts" "[I", Cond.fieldLink RX6 24 "AgainAgain$Walk" "tail" "I", Cond.fieldLink RX6 28 "AgainAgain$Walk" "ring" "I", Cond.methodLink RX6 51 yJ7_fill_53178, Cond.static yJ7_fill_53178, Cond.initialized RJ7, Cond.code yJ7_fill_53178 cJ7_fill_53178 4 none, Cond.methodLink RX7 282 yX6_worthInto, Cond.instanceMethod yX6_worthInto, Cond.selects RX6 yX6_worthInto yX6_worthInto, Cond.code yX6_worthInto cX6_worthInto 11 none, Cond.methodLink RX6 67 yX0_rateOver, Cond.instanceMethod yX0_rateOver, Cond.selects RX0 yX0_rateOver yX0_rateOver, Cond.initialized RX0, Cond.code yX0_rateOver cX0_rateOver 1 (some .long), Cond.fieldLink RX0 13 "AgainAgain$Game" "over" "J"]
def wsX7_firstUnrest_r3 : List Cond := [Cond.methodLink RX6 71 yX0_rateUnder, Cond.instanceMethod yX0_rateUnder, Cond.selects RX0 yX0_rateUnder yX0_rateUnder, Cond.code yX0_rateUnder cX0_rateUnder 1 (some .long), Cond.fieldLink RX0 19 "AgainAgain$Game" "under" "J", Cond.methodLink RX6 74 yX6_power, Cond.static yX6_power, Cond.code yX6_power cX6_power 6 (some .long), Cond.methodLink RX6 78 yX6_weighedAlong, Cond.instanceMethod yX6_weighedAlong, Cond.selects RX6 yX6_weighedAlong yX6_weighedAlong, Cond.code yX6_weighedAlong cX6_weighedAlong 12 (some .long), Cond.fieldLink RX6 15 "AgainAgain$Walk" "gains" "[I", Cond.methodLink RX6 82 yX4_become, Cond.instanceMethod yX4_become, Cond.selects RX4 yX4_become yX4_become, Cond.initialized RX4, Cond.code yX4_become cX4_become 7 none, Cond.methodLink RX4 16 Lib.MathLoose.abs_long.x, Cond.static Lib.MathLoose.abs_long.x, Cond.initialized "java/lang/Math", Cond.code Lib.MathLoose.abs_long.x Lib.MathLoose.abs_long.code 2 (some .long), Cond.fieldLink RX4 7 "AgainAgain$Ratio" "top" "J", Cond.fieldLink RX4 13 "AgainAgain$Ratio" "bottom" "J"]
def wsX7_firstUnrest_r4 : List Cond := [Cond.methodLink RX4 22 yX4_greatestShared, Cond.static yX4_greatestShared, Cond.code yX4_greatestShared cX4_greatestShared 11 (some .long), Cond.methodLink RX7 289 yX3_bestCompared, Cond.instanceMethod yX3_bestCompared, Cond.selects RX3 yX3_bestCompared yX3_bestCompared, Cond.initialized RX3, Cond.code yX3_bestCompared cX3_bestCompared 4 (some .int), Cond.fieldLink RX3 15 "AgainAgain$Plans" "tops" "[J", Cond.fieldLink RX3 19 "AgainAgain$Plans" "bottoms" "[J", Cond.methodLink RX3 54 yX3_slotOf, Cond.static yX3_slotOf, Cond.code yX3_slotOf cX3_slotOf 2 (some .int), Cond.methodLink RX3 80 yX4_compareWith, Cond.instanceMethod yX4_compareWith, Cond.selects RX4 yX4_compareWith yX4_compareWith, Cond.code yX4_compareWith cX4_compareWith 5 (some .int), Cond.methodLink RX4 26 yJ13_compare_74951, Cond.static yJ13_compare_74951, Cond.initialized RJ13, Cond.code yJ13_compare_74951 cJ13_compare_74951 4 (some .int)]
def wsX7_firstUnrest : List Cond := .code yX7_firstUnrest cX7_firstUnrest 5 (some .int) :: ((wsX7_firstUnrest_r1 ++ (wsX7_firstUnrest_r2 ++ (wsX7_firstUnrest_r3 ++ wsX7_firstUnrest_r4))) ++ wsX70 ++ wsX20 ++ wsX60 ++ wsX00 ++ wsX40 ++ wsX30)
def wsX7_everywhere_r1 : List Cond := [Cond.fieldLink RX7 40 "AgainAgain" "plans" "LAgainAgain$Plans;", Cond.fieldLink RX7 10 "AgainAgain" "game" "LAgainAgain$Game;", Cond.fieldLink RX7 19 "AgainAgain" "machines" "LAgainAgain$Machines;", Cond.methodLink RX7 145 yX7_areMachines, Cond.instanceMethod yX7_areMachines, Cond.selects RX7 yX7_areMachines yX7_areMachines, Cond.initialized RX7, Cond.code yX7_areMachines cX7_areMachines 3 (some .boolean), Cond.methodLink RX7 201 yX2_has, Cond.instanceMethod yX2_has, Cond.selects RX2 yX2_has yX2_has, Cond.initialized RX2, Cond.code yX2_has cX2_has 2 (some .boolean), Cond.fieldLink RX2 21 "AgainAgain$Machines" "many" "I", Cond.methodLink RX7 236 yX3_learnAll, Cond.instanceMethod yX3_learnAll, Cond.selects RX3 yX3_learnAll yX3_learnAll, Cond.initialized RX3, Cond.code yX3_learnAll cX3_learnAll 5 none, Cond.methodLink RX3 62 yX2_statesOf, Cond.instanceMethod yX2_statesOf, Cond.selects RX2 yX2_statesOf yX2_statesOf, Cond.code yX2_statesOf cX2_statesOf 2 (some .int), Cond.fieldLink RX2 9 "AgainAgain$Machines" "sizes" "[I"]
def wsX7_everywhere_r2 : List Cond := [Cond.methodLink RX3 77 yX3_learn, Cond.instanceMethod yX3_learn, Cond.selects RX3 yX3_learn yX3_learn, Cond.code yX3_learn cX3_learn 6 none, Cond.fieldLink RX3 32 "AgainAgain$Plans" "tried" "LAgainAgain$Ratio;", Cond.methodLink RX3 50 yX3_weigh, Cond.instanceMethod yX3_weigh, Cond.selects RX3 yX3_weigh yX3_weigh, Cond.code yX3_weigh cX3_weigh 7 none, Cond.fieldLink RX3 25 "AgainAgain$Plans" "walk" "LAgainAgain$Walk;", Cond.methodLink RX3 38 yX6_takePlan, Cond.instanceMethod yX6_takePlan, Cond.selects RX6 yX6_takePlan yX6_takePlan, Cond.initialized RX6, Cond.code yX6_takePlan cX6_takePlan 8 none, Cond.fieldLink RX6 11 "AgainAgain$Walk" "nexts" "[I", Cond.fieldLink RX6 15 "AgainAgain$Walk" "gains" "[I", Cond.methodLink RX6 31 yX2_statesOf, Cond.methodLink RX6 42 yX2_nextOf, Cond.instanceMethod yX2_nextOf, Cond.selects RX2 yX2_nextOf yX2_nextOf, Cond.code yX2_nextOf cX2_nextOf 4 (some .int), Cond.fieldLink RX2 18 "AgainAgain$Machines" "nexts" "[I", Cond.methodLink RX6 35 yX2_actionOf]
def wsX7_everywhere_r3 : List Cond := [Cond.instanceMethod yX2_actionOf, Cond.selects RX2 yX2_actionOf yX2_actionOf, Cond.code yX2_actionOf cX2_actionOf 3 (some .int), Cond.fieldLink RX2 13 "AgainAgain$Machines" "actions" "[I", Cond.methodLink RX6 46 yX0_gain, Cond.instanceMethod yX0_gain, Cond.selects RX0 yX0_gain yX0_gain, Cond.initialized RX0, Cond.code yX0_gain cX0_gain 3 (some .int), Cond.fieldLink RX0 9 "AgainAgain$Game" "gains" "[I", Cond.methodLink RX3 42 yX6_startAt, Cond.instanceMethod yX6_startAt, Cond.selects RX6 yX6_startAt yX6_startAt, Cond.code yX6_startAt cX6_startAt 4 none, Cond.fieldLink RX6 18 "AgainAgain$Walk" "firstMet" "[I", Cond.fieldLink RX6 21 "AgainAgain$Walk" "path" "[I", Cond.fieldLink RX6 24 "AgainAgain$Walk" "tail" "I", Cond.fieldLink RX6 28 "AgainAgain$Walk" "ring" "I", Cond.methodLink RX6 51 yJ7_fill_53178, Cond.static yJ7_fill_53178, Cond.initialized RJ7, Cond.code yJ7_fill_53178 cJ7_fill_53178 4 none, Cond.methodLink RX3 46 yX6_worthInto, Cond.instanceMethod yX6_worthInto]
def wsX7_everywhere_r4 : List Cond := [Cond.selects RX6 yX6_worthInto yX6_worthInto, Cond.code yX6_worthInto cX6_worthInto 11 none, Cond.methodLink RX6 67 yX0_rateOver, Cond.instanceMethod yX0_rateOver, Cond.selects RX0 yX0_rateOver yX0_rateOver, Cond.code yX0_rateOver cX0_rateOver 1 (some .long), Cond.fieldLink RX0 13 "AgainAgain$Game" "over" "J", Cond.methodLink RX6 71 yX0_rateUnder, Cond.instanceMethod yX0_rateUnder, Cond.selects RX0 yX0_rateUnder yX0_rateUnder, Cond.code yX0_rateUnder cX0_rateUnder 1 (some .long), Cond.fieldLink RX0 19 "AgainAgain$Game" "under" "J", Cond.methodLink RX6 74 yX6_power, Cond.static yX6_power, Cond.code yX6_power cX6_power 6 (some .long), Cond.methodLink RX6 78 yX6_weighedAlong, Cond.instanceMethod yX6_weighedAlong, Cond.selects RX6 yX6_weighedAlong yX6_weighedAlong, Cond.code yX6_weighedAlong cX6_weighedAlong 12 (some .long), Cond.methodLink RX6 82 yX4_become, Cond.instanceMethod yX4_become, Cond.selects RX4 yX4_become yX4_become, Cond.initialized RX4, Cond.code yX4_become cX4_become 7 none]
def wsX7_everywhere_r5 : List Cond := [Cond.methodLink RX4 16 Lib.MathLoose.abs_long.x, Cond.static Lib.MathLoose.abs_long.x, Cond.initialized "java/lang/Math", Cond.code Lib.MathLoose.abs_long.x Lib.MathLoose.abs_long.code 2 (some .long), Cond.fieldLink RX4 7 "AgainAgain$Ratio" "top" "J", Cond.fieldLink RX4 13 "AgainAgain$Ratio" "bottom" "J", Cond.methodLink RX4 22 yX4_greatestShared, Cond.static yX4_greatestShared, Cond.code yX4_greatestShared cX4_greatestShared 11 (some .long), Cond.methodLink RX3 54 yX3_slotOf, Cond.static yX3_slotOf, Cond.code yX3_slotOf cX3_slotOf 2 (some .int), Cond.methodLink RX3 58 yX3_keep, Cond.instanceMethod yX3_keep, Cond.selects RX3 yX3_keep yX3_keep, Cond.code yX3_keep cX3_keep 3 none, Cond.fieldLink RX3 11 "AgainAgain$Plans" "plans" "[I", Cond.fieldLink RX3 15 "AgainAgain$Plans" "tops" "[J", Cond.fieldLink RX3 19 "AgainAgain$Plans" "bottoms" "[J", Cond.methodLink RX3 73 yX4_part, Cond.instanceMethod yX4_part, Cond.selects RX4 yX4_part yX4_part, Cond.code yX4_part cX4_part 2 (some .long), Cond.methodLink RX3 66 yX3_plansAgainst]
def wsX7_everywhere_r6 : List Cond := [Cond.static yX3_plansAgainst, Cond.code yX3_plansAgainst cX3_plansAgainst 3 (some .int), Cond.methodLink RX3 69 yX3_bestCompared, Cond.instanceMethod yX3_bestCompared, Cond.selects RX3 yX3_bestCompared yX3_bestCompared, Cond.code yX3_bestCompared cX3_bestCompared 4 (some .int), Cond.methodLink RX3 80 yX4_compareWith, Cond.instanceMethod yX4_compareWith, Cond.selects RX4 yX4_compareWith yX4_compareWith, Cond.code yX4_compareWith cX4_compareWith 5 (some .int), Cond.methodLink RX4 26 yJ13_compare_74951, Cond.static yJ13_compare_74951, Cond.initialized RJ13, Cond.code yJ13_compare_74951 cJ13_compare_74951 4 (some .int), Cond.methodLink RX7 229 yX7_takeBothSides, Cond.instanceMethod yX7_takeBothSides, Cond.selects RX7 yX7_takeBothSides yX7_takeBothSides, Cond.code yX7_takeBothSides cX7_takeBothSides 3 none, Cond.fieldLink RX7 47 "AgainAgain" "walk" "LAgainAgain$Walk;", Cond.fieldLink RX7 51 "AgainAgain" "back" "LAgainAgain$Walk;", Cond.methodLink RX7 272 yX6_takeMatch, Cond.instanceMethod yX6_takeMatch, Cond.selects RX6 yX6_takeMatch yX6_takeMatch, Cond.code yX6_takeMatch cX6_takeMatch 9 none]
def wsX7_everywhere_r7 : List Cond := [Cond.methodLink RX6 39 yX6_placeOf, Cond.static yX6_placeOf, Cond.code yX6_placeOf cX6_placeOf 2 (some .int), Cond.methodLink RX7 240 yX7_firstUnrest, Cond.instanceMethod yX7_firstUnrest, Cond.selects RX7 yX7_firstUnrest yX7_firstUnrest, Cond.code yX7_firstUnrest cX7_firstUnrest 5 (some .int), Cond.methodLink RX7 219 yX2_statesOf, Cond.methodLink RX7 232 yX7_restFrom, Cond.instanceMethod yX7_restFrom, Cond.selects RX7 yX7_restFrom yX7_restFrom, Cond.code yX7_restFrom cX7_restFrom 5 (some .boolean), Cond.methodLink RX7 286 yX6_placeOf, Cond.methodLink RX7 293 yX7_gainsByPlan, Cond.instanceMethod yX7_gainsByPlan, Cond.selects RX7 yX7_gainsByPlan yX7_gainsByPlan, Cond.code yX7_gainsByPlan cX7_gainsByPlan 5 (some .boolean), Cond.fieldLink RX7 57 "AgainAgain" "ratio" "LAgainAgain$Ratio;", Cond.methodLink RX7 275 yX6_startAt, Cond.methodLink RX7 282 yX6_worthInto, Cond.methodLink RX7 289 yX3_bestCompared, Cond.methodLink RX7 197 yX7_oneIf, Cond.static yX7_oneIf, Cond.code yX7_oneIf cX7_oneIf 1 (some .int)]
def wsX7_everywhere : List Cond := .code yX7_everywhere cX7_everywhere 3 (some .int) :: ((wsX7_everywhere_r1 ++ (wsX7_everywhere_r2 ++ (wsX7_everywhere_r3 ++ (wsX7_everywhere_r4 ++ (wsX7_everywhere_r5 ++ (wsX7_everywhere_r6 ++ wsX7_everywhere_r7)))))) ++ wsX70 ++ wsX20 ++ wsX30 ++ wsX60 ++ wsX00 ++ wsX40)
def wsX7_deviationFrom_r1 : List Cond := [Cond.fieldLink RX7 47 "AgainAgain" "walk" "LAgainAgain$Walk;", Cond.fieldLink RX7 40 "AgainAgain" "plans" "LAgainAgain$Plans;", Cond.methodLink RX7 286 yX6_placeOf, Cond.static yX6_placeOf, Cond.initialized RX6, Cond.code yX6_placeOf cX6_placeOf 2 (some .int), Cond.methodLink RX7 293 yX7_gainsByPlan, Cond.instanceMethod yX7_gainsByPlan, Cond.selects RX7 yX7_gainsByPlan yX7_gainsByPlan, Cond.initialized RX7, Cond.code yX7_gainsByPlan cX7_gainsByPlan 5 (some .boolean), Cond.fieldLink RX7 10 "AgainAgain" "game" "LAgainAgain$Game;", Cond.fieldLink RX7 57 "AgainAgain" "ratio" "LAgainAgain$Ratio;", Cond.methodLink RX7 275 yX6_startAt, Cond.instanceMethod yX6_startAt, Cond.selects RX6 yX6_startAt yX6_startAt, Cond.code yX6_startAt cX6_startAt 4 none, Cond.fieldLink RX6 18 "AgainAgain$Walk" "firstMet" "[I", Cond.fieldLink RX6 21 "AgainAgain$Walk" "path" "[I", Cond.fieldLink RX6 11 "AgainAgain$Walk" "nexts" "[I", Cond.fieldLink RX6 24 "AgainAgain$Walk" "tail" "I", Cond.fieldLink RX6 28 "AgainAgain$Walk" "ring" "I", Cond.methodLink RX6 51 yJ7_fill_53178, Cond.static yJ7_fill_53178]
def wsX7_deviationFrom_r2 : List Cond := [Cond.initialized RJ7, Cond.code yJ7_fill_53178 cJ7_fill_53178 4 none, Cond.methodLink RX7 282 yX6_worthInto, Cond.instanceMethod yX6_worthInto, Cond.selects RX6 yX6_worthInto yX6_worthInto, Cond.code yX6_worthInto cX6_worthInto 11 none, Cond.methodLink RX6 67 yX0_rateOver, Cond.instanceMethod yX0_rateOver, Cond.selects RX0 yX0_rateOver yX0_rateOver, Cond.initialized RX0, Cond.code yX0_rateOver cX0_rateOver 1 (some .long), Cond.fieldLink RX0 13 "AgainAgain$Game" "over" "J", Cond.methodLink RX6 71 yX0_rateUnder, Cond.instanceMethod yX0_rateUnder, Cond.selects RX0 yX0_rateUnder yX0_rateUnder, Cond.code yX0_rateUnder cX0_rateUnder 1 (some .long), Cond.fieldLink RX0 19 "AgainAgain$Game" "under" "J", Cond.methodLink RX6 74 yX6_power, Cond.static yX6_power, Cond.code yX6_power cX6_power 6 (some .long), Cond.methodLink RX6 78 yX6_weighedAlong, Cond.instanceMethod yX6_weighedAlong, Cond.selects RX6 yX6_weighedAlong yX6_weighedAlong, Cond.code yX6_weighedAlong cX6_weighedAlong 12 (some .long)]
def wsX7_deviationFrom_r3 : List Cond := [Cond.fieldLink RX6 15 "AgainAgain$Walk" "gains" "[I", Cond.methodLink RX6 82 yX4_become, Cond.instanceMethod yX4_become, Cond.selects RX4 yX4_become yX4_become, Cond.initialized RX4, Cond.code yX4_become cX4_become 7 none, Cond.methodLink RX4 16 Lib.MathLoose.abs_long.x, Cond.static Lib.MathLoose.abs_long.x, Cond.initialized "java/lang/Math", Cond.code Lib.MathLoose.abs_long.x Lib.MathLoose.abs_long.code 2 (some .long), Cond.fieldLink RX4 7 "AgainAgain$Ratio" "top" "J", Cond.fieldLink RX4 13 "AgainAgain$Ratio" "bottom" "J", Cond.methodLink RX4 22 yX4_greatestShared, Cond.static yX4_greatestShared, Cond.code yX4_greatestShared cX4_greatestShared 11 (some .long), Cond.methodLink RX7 289 yX3_bestCompared, Cond.instanceMethod yX3_bestCompared, Cond.selects RX3 yX3_bestCompared yX3_bestCompared, Cond.initialized RX3, Cond.code yX3_bestCompared cX3_bestCompared 4 (some .int), Cond.fieldLink RX3 15 "AgainAgain$Plans" "tops" "[J", Cond.fieldLink RX3 19 "AgainAgain$Plans" "bottoms" "[J", Cond.methodLink RX3 54 yX3_slotOf, Cond.static yX3_slotOf]
def wsX7_deviationFrom_r4 : List Cond := [Cond.code yX3_slotOf cX3_slotOf 2 (some .int), Cond.methodLink RX3 80 yX4_compareWith, Cond.instanceMethod yX4_compareWith, Cond.selects RX4 yX4_compareWith yX4_compareWith, Cond.code yX4_compareWith cX4_compareWith 5 (some .int), Cond.methodLink RX4 26 yJ13_compare_74951, Cond.static yJ13_compare_74951, Cond.initialized RJ13, Cond.code yJ13_compare_74951 cJ13_compare_74951 4 (some .int), Cond.methodLink RX7 212 yX3_bestPlan, Cond.instanceMethod yX3_bestPlan, Cond.selects RX3 yX3_bestPlan yX3_bestPlan, Cond.code yX3_bestPlan cX3_bestPlan 3 (some .int), Cond.fieldLink RX3 11 "AgainAgain$Plans" "plans" "[I"]
def wsX7_deviationFrom : List Cond := .code yX7_deviationFrom cX7_deviationFrom 7 (some .int) :: ((wsX7_deviationFrom_r1 ++ (wsX7_deviationFrom_r2 ++ (wsX7_deviationFrom_r3 ++ wsX7_deviationFrom_r4))) ++ wsX70 ++ wsX60 ++ wsX00 ++ wsX40 ++ wsX30)
def wsX7_deviation_r1 : List Cond := [Cond.fieldLink RX7 40 "AgainAgain" "plans" "LAgainAgain$Plans;", Cond.fieldLink RX7 10 "AgainAgain" "game" "LAgainAgain$Game;", Cond.fieldLink RX7 19 "AgainAgain" "machines" "LAgainAgain$Machines;", Cond.methodLink RX7 145 yX7_areMachines, Cond.instanceMethod yX7_areMachines, Cond.selects RX7 yX7_areMachines yX7_areMachines, Cond.initialized RX7, Cond.code yX7_areMachines cX7_areMachines 3 (some .boolean), Cond.methodLink RX7 201 yX2_has, Cond.instanceMethod yX2_has, Cond.selects RX2 yX2_has yX2_has, Cond.initialized RX2, Cond.code yX2_has cX2_has 2 (some .boolean), Cond.fieldLink RX2 21 "AgainAgain$Machines" "many" "I", Cond.methodLink RX7 72 yX7_within, Cond.static yX7_within, Cond.code yX7_within cX7_within 3 (some .boolean), Cond.methodLink RX7 236 yX3_learnAll, Cond.instanceMethod yX3_learnAll, Cond.selects RX3 yX3_learnAll yX3_learnAll, Cond.initialized RX3, Cond.code yX3_learnAll cX3_learnAll 5 none, Cond.methodLink RX3 62 yX2_statesOf, Cond.instanceMethod yX2_statesOf]
def wsX7_deviation_r2 : List Cond := [Cond.selects RX2 yX2_statesOf yX2_statesOf, Cond.code yX2_statesOf cX2_statesOf 2 (some .int), Cond.fieldLink RX2 9 "AgainAgain$Machines" "sizes" "[I", Cond.methodLink RX3 77 yX3_learn, Cond.instanceMethod yX3_learn, Cond.selects RX3 yX3_learn yX3_learn, Cond.code yX3_learn cX3_learn 6 none, Cond.fieldLink RX3 32 "AgainAgain$Plans" "tried" "LAgainAgain$Ratio;", Cond.methodLink RX3 50 yX3_weigh, Cond.instanceMethod yX3_weigh, Cond.selects RX3 yX3_weigh yX3_weigh, Cond.code yX3_weigh cX3_weigh 7 none, Cond.fieldLink RX3 25 "AgainAgain$Plans" "walk" "LAgainAgain$Walk;", Cond.methodLink RX3 38 yX6_takePlan, Cond.instanceMethod yX6_takePlan, Cond.selects RX6 yX6_takePlan yX6_takePlan, Cond.initialized RX6, Cond.code yX6_takePlan cX6_takePlan 8 none, Cond.fieldLink RX6 11 "AgainAgain$Walk" "nexts" "[I", Cond.fieldLink RX6 15 "AgainAgain$Walk" "gains" "[I", Cond.methodLink RX6 31 yX2_statesOf, Cond.methodLink RX6 42 yX2_nextOf, Cond.instanceMethod yX2_nextOf, Cond.selects RX2 yX2_nextOf yX2_nextOf]
def wsX7_deviation_r3 : List Cond := [Cond.code yX2_nextOf cX2_nextOf 4 (some .int), Cond.fieldLink RX2 18 "AgainAgain$Machines" "nexts" "[I", Cond.methodLink RX6 35 yX2_actionOf, Cond.instanceMethod yX2_actionOf, Cond.selects RX2 yX2_actionOf yX2_actionOf, Cond.code yX2_actionOf cX2_actionOf 3 (some .int), Cond.fieldLink RX2 13 "AgainAgain$Machines" "actions" "[I", Cond.methodLink RX6 46 yX0_gain, Cond.instanceMethod yX0_gain, Cond.selects RX0 yX0_gain yX0_gain, Cond.initialized RX0, Cond.code yX0_gain cX0_gain 3 (some .int), Cond.fieldLink RX0 9 "AgainAgain$Game" "gains" "[I", Cond.methodLink RX3 42 yX6_startAt, Cond.instanceMethod yX6_startAt, Cond.selects RX6 yX6_startAt yX6_startAt, Cond.code yX6_startAt cX6_startAt 4 none, Cond.fieldLink RX6 18 "AgainAgain$Walk" "firstMet" "[I", Cond.fieldLink RX6 21 "AgainAgain$Walk" "path" "[I", Cond.fieldLink RX6 24 "AgainAgain$Walk" "tail" "I", Cond.fieldLink RX6 28 "AgainAgain$Walk" "ring" "I", Cond.methodLink RX6 51 yJ7_fill_53178, Cond.static yJ7_fill_53178, Cond.initialized RJ7]
def wsX7_deviation_r4 : List Cond := [Cond.code yJ7_fill_53178 cJ7_fill_53178 4 none, Cond.methodLink RX3 46 yX6_worthInto, Cond.instanceMethod yX6_worthInto, Cond.selects RX6 yX6_worthInto yX6_worthInto, Cond.code yX6_worthInto cX6_worthInto 11 none, Cond.methodLink RX6 67 yX0_rateOver, Cond.instanceMethod yX0_rateOver, Cond.selects RX0 yX0_rateOver yX0_rateOver, Cond.code yX0_rateOver cX0_rateOver 1 (some .long), Cond.fieldLink RX0 13 "AgainAgain$Game" "over" "J", Cond.methodLink RX6 71 yX0_rateUnder, Cond.instanceMethod yX0_rateUnder, Cond.selects RX0 yX0_rateUnder yX0_rateUnder, Cond.code yX0_rateUnder cX0_rateUnder 1 (some .long), Cond.fieldLink RX0 19 "AgainAgain$Game" "under" "J", Cond.methodLink RX6 74 yX6_power, Cond.static yX6_power, Cond.code yX6_power cX6_power 6 (some .long), Cond.methodLink RX6 78 yX6_weighedAlong, Cond.instanceMethod yX6_weighedAlong, Cond.selects RX6 yX6_weighedAlong yX6_weighedAlong, Cond.code yX6_weighedAlong cX6_weighedAlong 12 (some .long), Cond.methodLink RX6 82 yX4_become, Cond.instanceMethod yX4_become]
def wsX7_deviation_r5 : List Cond := [Cond.selects RX4 yX4_become yX4_become, Cond.initialized RX4, Cond.code yX4_become cX4_become 7 none, Cond.methodLink RX4 16 Lib.MathLoose.abs_long.x, Cond.static Lib.MathLoose.abs_long.x, Cond.initialized "java/lang/Math", Cond.code Lib.MathLoose.abs_long.x Lib.MathLoose.abs_long.code 2 (some .long), Cond.fieldLink RX4 7 "AgainAgain$Ratio" "top" "J", Cond.fieldLink RX4 13 "AgainAgain$Ratio" "bottom" "J", Cond.methodLink RX4 22 yX4_greatestShared, Cond.static yX4_greatestShared, Cond.code yX4_greatestShared cX4_greatestShared 11 (some .long), Cond.methodLink RX3 54 yX3_slotOf, Cond.static yX3_slotOf, Cond.code yX3_slotOf cX3_slotOf 2 (some .int), Cond.methodLink RX3 58 yX3_keep, Cond.instanceMethod yX3_keep, Cond.selects RX3 yX3_keep yX3_keep, Cond.code yX3_keep cX3_keep 3 none, Cond.fieldLink RX3 11 "AgainAgain$Plans" "plans" "[I", Cond.fieldLink RX3 15 "AgainAgain$Plans" "tops" "[J", Cond.fieldLink RX3 19 "AgainAgain$Plans" "bottoms" "[J", Cond.methodLink RX3 73 yX4_part, Cond.instanceMethod yX4_part]
def wsX7_deviation_r6 : List Cond := [Cond.selects RX4 yX4_part yX4_part, Cond.code yX4_part cX4_part 2 (some .long), Cond.methodLink RX3 66 yX3_plansAgainst, Cond.static yX3_plansAgainst, Cond.code yX3_plansAgainst cX3_plansAgainst 3 (some .int), Cond.methodLink RX3 69 yX3_bestCompared, Cond.instanceMethod yX3_bestCompared, Cond.selects RX3 yX3_bestCompared yX3_bestCompared, Cond.code yX3_bestCompared cX3_bestCompared 4 (some .int), Cond.methodLink RX3 80 yX4_compareWith, Cond.instanceMethod yX4_compareWith, Cond.selects RX4 yX4_compareWith yX4_compareWith, Cond.code yX4_compareWith cX4_compareWith 5 (some .int), Cond.methodLink RX4 26 yJ13_compare_74951, Cond.static yJ13_compare_74951, Cond.initialized RJ13, Cond.code yJ13_compare_74951 cJ13_compare_74951 4 (some .int), Cond.methodLink RX7 229 yX7_takeBothSides, Cond.instanceMethod yX7_takeBothSides, Cond.selects RX7 yX7_takeBothSides yX7_takeBothSides, Cond.code yX7_takeBothSides cX7_takeBothSides 3 none, Cond.fieldLink RX7 47 "AgainAgain" "walk" "LAgainAgain$Walk;", Cond.fieldLink RX7 51 "AgainAgain" "back" "LAgainAgain$Walk;", Cond.methodLink RX7 272 yX6_takeMatch]
def wsX7_deviation_r7 : List Cond := [Cond.instanceMethod yX6_takeMatch, Cond.selects RX6 yX6_takeMatch yX6_takeMatch, Cond.code yX6_takeMatch cX6_takeMatch 9 none, Cond.methodLink RX6 39 yX6_placeOf, Cond.static yX6_placeOf, Cond.code yX6_placeOf cX6_placeOf 2 (some .int), Cond.methodLink RX7 240 yX7_firstUnrest, Cond.instanceMethod yX7_firstUnrest, Cond.selects RX7 yX7_firstUnrest yX7_firstUnrest, Cond.code yX7_firstUnrest cX7_firstUnrest 5 (some .int), Cond.methodLink RX7 219 yX2_statesOf, Cond.methodLink RX7 232 yX7_restFrom, Cond.instanceMethod yX7_restFrom, Cond.selects RX7 yX7_restFrom yX7_restFrom, Cond.code yX7_restFrom cX7_restFrom 5 (some .boolean), Cond.methodLink RX7 286 yX6_placeOf, Cond.methodLink RX7 293 yX7_gainsByPlan, Cond.instanceMethod yX7_gainsByPlan, Cond.selects RX7 yX7_gainsByPlan yX7_gainsByPlan, Cond.code yX7_gainsByPlan cX7_gainsByPlan 5 (some .boolean), Cond.fieldLink RX7 57 "AgainAgain" "ratio" "LAgainAgain$Ratio;", Cond.methodLink RX7 275 yX6_startAt, Cond.methodLink RX7 282 yX6_worthInto, Cond.methodLink RX7 289 yX3_bestCompared]
def wsX7_deviation_r8 : List Cond := [Cond.methodLink RX7 154 yX6_mine, Cond.static yX6_mine, Cond.code yX6_mine cX6_mine 1 (some .int), Cond.methodLink RX7 243 yX6_theirs, Cond.static yX6_theirs, Cond.code yX6_theirs cX6_theirs 1 (some .int), Cond.methodLink RX7 246 yX7_deviationFrom, Cond.instanceMethod yX7_deviationFrom, Cond.selects RX7 yX7_deviationFrom yX7_deviationFrom, Cond.code yX7_deviationFrom cX7_deviationFrom 7 (some .int), Cond.methodLink RX7 212 yX3_bestPlan, Cond.instanceMethod yX3_bestPlan, Cond.selects RX3 yX3_bestPlan yX3_bestPlan, Cond.code yX3_bestPlan cX3_bestPlan 3 (some .int)]
def wsX7_deviation : List Cond := .code yX7_deviation cX7_deviation 5 (some .int) :: ((wsX7_deviation_r1 ++ (wsX7_deviation_r2 ++ (wsX7_deviation_r3 ++ (wsX7_deviation_r4 ++ (wsX7_deviation_r5 ++ (wsX7_deviation_r6 ++ (wsX7_deviation_r7 ++ wsX7_deviation_r8))))))) ++ wsX70 ++ wsX20 ++ wsX30 ++ wsX60 ++ wsX00 ++ wsX40)
def wsX7_compareWorths_r1 : List Cond := [Cond.fieldLink RX7 57 "AgainAgain" "ratio" "LAgainAgain$Ratio;", Cond.fieldLink RX7 61 "AgainAgain" "other" "LAgainAgain$Ratio;", Cond.methodLink RX7 183 yX7_matchWorth, Cond.instanceMethod yX7_matchWorth, Cond.selects RX7 yX7_matchWorth yX7_matchWorth, Cond.initialized RX7, Cond.code yX7_matchWorth cX7_matchWorth 4 none, Cond.fieldLink RX7 47 "AgainAgain" "walk" "LAgainAgain$Walk;", Cond.fieldLink RX7 10 "AgainAgain" "game" "LAgainAgain$Game;", Cond.methodLink RX7 148 yX7_playOut, Cond.instanceMethod yX7_playOut, Cond.selects RX7 yX7_playOut yX7_playOut, Cond.code yX7_playOut cX7_playOut 3 none, Cond.fieldLink RX7 19 "AgainAgain" "machines" "LAgainAgain$Machines;", Cond.methodLink RX7 272 yX6_takeMatch, Cond.instanceMethod yX6_takeMatch, Cond.selects RX6 yX6_takeMatch yX6_takeMatch, Cond.initialized RX6, Cond.code yX6_takeMatch cX6_takeMatch 9 none, Cond.fieldLink RX6 11 "AgainAgain$Walk" "nexts" "[I", Cond.fieldLink RX6 15 "AgainAgain$Walk" "gains" "[I", Cond.methodLink RX6 31 yX2_statesOf, Cond.instanceMethod yX2_statesOf, Cond.selects RX2 yX2_statesOf yX2_statesOf]
def wsX7_compareWorths_r2 : List Cond := [Cond.initialized RX2, Cond.code yX2_statesOf cX2_statesOf 2 (some .int), Cond.fieldLink RX2 9 "AgainAgain$Machines" "sizes" "[I", Cond.methodLink RX6 35 yX2_actionOf, Cond.instanceMethod yX2_actionOf, Cond.selects RX2 yX2_actionOf yX2_actionOf, Cond.code yX2_actionOf cX2_actionOf 3 (some .int), Cond.fieldLink RX2 13 "AgainAgain$Machines" "actions" "[I", Cond.methodLink RX6 39 yX6_placeOf, Cond.static yX6_placeOf, Cond.code yX6_placeOf cX6_placeOf 2 (some .int), Cond.methodLink RX6 42 yX2_nextOf, Cond.instanceMethod yX2_nextOf, Cond.selects RX2 yX2_nextOf yX2_nextOf, Cond.code yX2_nextOf cX2_nextOf 4 (some .int), Cond.fieldLink RX2 18 "AgainAgain$Machines" "nexts" "[I", Cond.methodLink RX6 46 yX0_gain, Cond.instanceMethod yX0_gain, Cond.selects RX0 yX0_gain yX0_gain, Cond.initialized RX0, Cond.code yX0_gain cX0_gain 3 (some .int), Cond.fieldLink RX0 9 "AgainAgain$Game" "gains" "[I", Cond.methodLink RX7 275 yX6_startAt, Cond.instanceMethod yX6_startAt]
def wsX7_compareWorths_r3 : List Cond := [Cond.selects RX6 yX6_startAt yX6_startAt, Cond.code yX6_startAt cX6_startAt 4 none, Cond.fieldLink RX6 18 "AgainAgain$Walk" "firstMet" "[I", Cond.fieldLink RX6 21 "AgainAgain$Walk" "path" "[I", Cond.fieldLink RX6 24 "AgainAgain$Walk" "tail" "I", Cond.fieldLink RX6 28 "AgainAgain$Walk" "ring" "I", Cond.methodLink RX6 51 yJ7_fill_53178, Cond.static yJ7_fill_53178, Cond.initialized RJ7, Cond.code yJ7_fill_53178 cJ7_fill_53178 4 none, Cond.methodLink RX7 282 yX6_worthInto, Cond.instanceMethod yX6_worthInto, Cond.selects RX6 yX6_worthInto yX6_worthInto, Cond.code yX6_worthInto cX6_worthInto 11 none, Cond.methodLink RX6 67 yX0_rateOver, Cond.instanceMethod yX0_rateOver, Cond.selects RX0 yX0_rateOver yX0_rateOver, Cond.code yX0_rateOver cX0_rateOver 1 (some .long), Cond.fieldLink RX0 13 "AgainAgain$Game" "over" "J", Cond.methodLink RX6 71 yX0_rateUnder, Cond.instanceMethod yX0_rateUnder, Cond.selects RX0 yX0_rateUnder yX0_rateUnder, Cond.code yX0_rateUnder cX0_rateUnder 1 (some .long), Cond.fieldLink RX0 19 "AgainAgain$Game" "under" "J"]
def wsX7_compareWorths_r4 : List Cond := [Cond.methodLink RX6 74 yX6_power, Cond.static yX6_power, Cond.code yX6_power cX6_power 6 (some .long), Cond.methodLink RX6 78 yX6_weighedAlong, Cond.instanceMethod yX6_weighedAlong, Cond.selects RX6 yX6_weighedAlong yX6_weighedAlong, Cond.code yX6_weighedAlong cX6_weighedAlong 12 (some .long), Cond.methodLink RX6 82 yX4_become, Cond.instanceMethod yX4_become, Cond.selects RX4 yX4_become yX4_become, Cond.initialized RX4, Cond.code yX4_become cX4_become 7 none, Cond.methodLink RX4 16 Lib.MathLoose.abs_long.x, Cond.static Lib.MathLoose.abs_long.x, Cond.initialized "java/lang/Math", Cond.code Lib.MathLoose.abs_long.x Lib.MathLoose.abs_long.code 2 (some .long), Cond.fieldLink RX4 7 "AgainAgain$Ratio" "top" "J", Cond.fieldLink RX4 13 "AgainAgain$Ratio" "bottom" "J", Cond.methodLink RX4 22 yX4_greatestShared, Cond.static yX4_greatestShared, Cond.code yX4_greatestShared cX4_greatestShared 11 (some .long), Cond.methodLink RX7 179 yX4_part, Cond.instanceMethod yX4_part, Cond.selects RX4 yX4_part yX4_part]
def wsX7_compareWorths_r5 : List Cond := [Cond.code yX4_part cX4_part 2 (some .long), Cond.methodLink RX7 297 yX4_compareWith, Cond.instanceMethod yX4_compareWith, Cond.selects RX4 yX4_compareWith yX4_compareWith, Cond.code yX4_compareWith cX4_compareWith 5 (some .int), Cond.methodLink RX4 26 yJ13_compare_74951, Cond.static yJ13_compare_74951, Cond.initialized RJ13, Cond.code yJ13_compare_74951 cJ13_compare_74951 4 (some .int)]
def wsX7_compareWorths : List Cond := .code yX7_compareWorths cX7_compareWorths 5 (some .int) :: ((wsX7_compareWorths_r1 ++ (wsX7_compareWorths_r2 ++ (wsX7_compareWorths_r3 ++ (wsX7_compareWorths_r4 ++ wsX7_compareWorths_r5)))) ++ wsX70 ++ wsX60 ++ wsX20 ++ wsX00 ++ wsX40)
def wsX7_withstands_r1 : List Cond := [Cond.methodLink RX7 301 yX7_compareWorths, Cond.instanceMethod yX7_compareWorths, Cond.selects RX7 yX7_compareWorths yX7_compareWorths, Cond.initialized RX7, Cond.code yX7_compareWorths cX7_compareWorths 5 (some .int), Cond.fieldLink RX7 57 "AgainAgain" "ratio" "LAgainAgain$Ratio;", Cond.fieldLink RX7 61 "AgainAgain" "other" "LAgainAgain$Ratio;", Cond.methodLink RX7 183 yX7_matchWorth, Cond.instanceMethod yX7_matchWorth, Cond.selects RX7 yX7_matchWorth yX7_matchWorth, Cond.code yX7_matchWorth cX7_matchWorth 4 none, Cond.fieldLink RX7 47 "AgainAgain" "walk" "LAgainAgain$Walk;", Cond.fieldLink RX7 10 "AgainAgain" "game" "LAgainAgain$Game;", Cond.methodLink RX7 148 yX7_playOut, Cond.instanceMethod yX7_playOut, Cond.selects RX7 yX7_playOut yX7_playOut, Cond.code yX7_playOut cX7_playOut 3 none, Cond.fieldLink RX7 19 "AgainAgain" "machines" "LAgainAgain$Machines;", Cond.methodLink RX7 272 yX6_takeMatch, Cond.instanceMethod yX6_takeMatch, Cond.selects RX6 yX6_takeMatch yX6_takeMatch, Cond.initialized RX6, Cond.code yX6_takeMatch cX6_takeMatch 9 none, Cond.fieldLink RX6 11 "AgainAgain$Walk" "nexts" "[I"]
def wsX7_withstands_r2 : List Cond := [Cond.fieldLink RX6 15 "AgainAgain$Walk" "gains" "[I", Cond.methodLink RX6 31 yX2_statesOf, Cond.instanceMethod yX2_statesOf, Cond.selects RX2 yX2_statesOf yX2_statesOf, Cond.initialized RX2, Cond.code yX2_statesOf cX2_statesOf 2 (some .int), Cond.fieldLink RX2 9 "AgainAgain$Machines" "sizes" "[I", Cond.methodLink RX6 35 yX2_actionOf, Cond.instanceMethod yX2_actionOf, Cond.selects RX2 yX2_actionOf yX2_actionOf, Cond.code yX2_actionOf cX2_actionOf 3 (some .int), Cond.fieldLink RX2 13 "AgainAgain$Machines" "actions" "[I", Cond.methodLink RX6 39 yX6_placeOf, Cond.static yX6_placeOf, Cond.code yX6_placeOf cX6_placeOf 2 (some .int), Cond.methodLink RX6 42 yX2_nextOf, Cond.instanceMethod yX2_nextOf, Cond.selects RX2 yX2_nextOf yX2_nextOf, Cond.code yX2_nextOf cX2_nextOf 4 (some .int), Cond.fieldLink RX2 18 "AgainAgain$Machines" "nexts" "[I", Cond.methodLink RX6 46 yX0_gain, Cond.instanceMethod yX0_gain, Cond.selects RX0 yX0_gain yX0_gain, Cond.initialized RX0]
def wsX7_withstands_r3 : List Cond := [Cond.code yX0_gain cX0_gain 3 (some .int), Cond.fieldLink RX0 9 "AgainAgain$Game" "gains" "[I", Cond.methodLink RX7 275 yX6_startAt, Cond.instanceMethod yX6_startAt, Cond.selects RX6 yX6_startAt yX6_startAt, Cond.code yX6_startAt cX6_startAt 4 none, Cond.fieldLink RX6 18 "AgainAgain$Walk" "firstMet" "[I", Cond.fieldLink RX6 21 "AgainAgain$Walk" "path" "[I", Cond.fieldLink RX6 24 "AgainAgain$Walk" "tail" "I", Cond.fieldLink RX6 28 "AgainAgain$Walk" "ring" "I", Cond.methodLink RX6 51 yJ7_fill_53178, Cond.static yJ7_fill_53178, Cond.initialized RJ7, Cond.code yJ7_fill_53178 cJ7_fill_53178 4 none, Cond.methodLink RX7 282 yX6_worthInto, Cond.instanceMethod yX6_worthInto, Cond.selects RX6 yX6_worthInto yX6_worthInto, Cond.code yX6_worthInto cX6_worthInto 11 none, Cond.methodLink RX6 67 yX0_rateOver, Cond.instanceMethod yX0_rateOver, Cond.selects RX0 yX0_rateOver yX0_rateOver, Cond.code yX0_rateOver cX0_rateOver 1 (some .long), Cond.fieldLink RX0 13 "AgainAgain$Game" "over" "J", Cond.methodLink RX6 71 yX0_rateUnder]
def wsX7_withstands_r4 : List Cond := [Cond.instanceMethod yX0_rateUnder, Cond.selects RX0 yX0_rateUnder yX0_rateUnder, Cond.code yX0_rateUnder cX0_rateUnder 1 (some .long), Cond.fieldLink RX0 19 "AgainAgain$Game" "under" "J", Cond.methodLink RX6 74 yX6_power, Cond.static yX6_power, Cond.code yX6_power cX6_power 6 (some .long), Cond.methodLink RX6 78 yX6_weighedAlong, Cond.instanceMethod yX6_weighedAlong, Cond.selects RX6 yX6_weighedAlong yX6_weighedAlong, Cond.code yX6_weighedAlong cX6_weighedAlong 12 (some .long), Cond.methodLink RX6 82 yX4_become, Cond.instanceMethod yX4_become, Cond.selects RX4 yX4_become yX4_become, Cond.initialized RX4, Cond.code yX4_become cX4_become 7 none, Cond.methodLink RX4 16 Lib.MathLoose.abs_long.x, Cond.static Lib.MathLoose.abs_long.x, Cond.initialized "java/lang/Math", Cond.code Lib.MathLoose.abs_long.x Lib.MathLoose.abs_long.code 2 (some .long), Cond.fieldLink RX4 7 "AgainAgain$Ratio" "top" "J", Cond.fieldLink RX4 13 "AgainAgain$Ratio" "bottom" "J", Cond.methodLink RX4 22 yX4_greatestShared, Cond.static yX4_greatestShared]
def wsX7_withstands_r5 : List Cond := [Cond.code yX4_greatestShared cX4_greatestShared 11 (some .long), Cond.methodLink RX7 179 yX4_part, Cond.instanceMethod yX4_part, Cond.selects RX4 yX4_part yX4_part, Cond.code yX4_part cX4_part 2 (some .long), Cond.methodLink RX7 297 yX4_compareWith, Cond.instanceMethod yX4_compareWith, Cond.selects RX4 yX4_compareWith yX4_compareWith, Cond.code yX4_compareWith cX4_compareWith 5 (some .int), Cond.methodLink RX4 26 yJ13_compare_74951, Cond.static yJ13_compare_74951, Cond.initialized RJ13, Cond.code yJ13_compare_74951 cJ13_compare_74951 4 (some .int)]
def wsX7_withstands : List Cond := .code yX7_withstands cX7_withstands 4 (some .boolean) :: ((wsX7_withstands_r1 ++ (wsX7_withstands_r2 ++ (wsX7_withstands_r3 ++ (wsX7_withstands_r4 ++ wsX7_withstands_r5)))) ++ wsX70 ++ wsX60 ++ wsX20 ++ wsX00 ++ wsX40)
def wsX7_resists_r1 : List Cond := [Cond.methodLink RX7 145 yX7_areMachines, Cond.instanceMethod yX7_areMachines, Cond.selects RX7 yX7_areMachines yX7_areMachines, Cond.initialized RX7, Cond.code yX7_areMachines cX7_areMachines 3 (some .boolean), Cond.fieldLink RX7 19 "AgainAgain" "machines" "LAgainAgain$Machines;", Cond.methodLink RX7 201 yX2_has, Cond.instanceMethod yX2_has, Cond.selects RX2 yX2_has yX2_has, Cond.initialized RX2, Cond.code yX2_has cX2_has 2 (some .boolean), Cond.fieldLink RX2 21 "AgainAgain$Machines" "many" "I", Cond.methodLink RX7 250 yX7_withstands, Cond.instanceMethod yX7_withstands, Cond.selects RX7 yX7_withstands yX7_withstands, Cond.code yX7_withstands cX7_withstands 4 (some .boolean), Cond.methodLink RX7 301 yX7_compareWorths, Cond.instanceMethod yX7_compareWorths, Cond.selects RX7 yX7_compareWorths yX7_compareWorths, Cond.code yX7_compareWorths cX7_compareWorths 5 (some .int), Cond.fieldLink RX7 57 "AgainAgain" "ratio" "LAgainAgain$Ratio;", Cond.fieldLink RX7 61 "AgainAgain" "other" "LAgainAgain$Ratio;", Cond.methodLink RX7 183 yX7_matchWorth, Cond.instanceMethod yX7_matchWorth]
def wsX7_resists_r2 : List Cond := [Cond.selects RX7 yX7_matchWorth yX7_matchWorth, Cond.code yX7_matchWorth cX7_matchWorth 4 none, Cond.fieldLink RX7 47 "AgainAgain" "walk" "LAgainAgain$Walk;", Cond.fieldLink RX7 10 "AgainAgain" "game" "LAgainAgain$Game;", Cond.methodLink RX7 148 yX7_playOut, Cond.instanceMethod yX7_playOut, Cond.selects RX7 yX7_playOut yX7_playOut, Cond.code yX7_playOut cX7_playOut 3 none, Cond.methodLink RX7 272 yX6_takeMatch, Cond.instanceMethod yX6_takeMatch, Cond.selects RX6 yX6_takeMatch yX6_takeMatch, Cond.initialized RX6, Cond.code yX6_takeMatch cX6_takeMatch 9 none, Cond.fieldLink RX6 11 "AgainAgain$Walk" "nexts" "[I", Cond.fieldLink RX6 15 "AgainAgain$Walk" "gains" "[I", Cond.methodLink RX6 31 yX2_statesOf, Cond.instanceMethod yX2_statesOf, Cond.selects RX2 yX2_statesOf yX2_statesOf, Cond.code yX2_statesOf cX2_statesOf 2 (some .int), Cond.fieldLink RX2 9 "AgainAgain$Machines" "sizes" "[I", Cond.methodLink RX6 35 yX2_actionOf, Cond.instanceMethod yX2_actionOf, Cond.selects RX2 yX2_actionOf yX2_actionOf, Cond.code yX2_actionOf cX2_actionOf 3 (some .int)]
def wsX7_resists_r3 : List Cond := [Cond.fieldLink RX2 13 "AgainAgain$Machines" "actions" "[I", Cond.methodLink RX6 39 yX6_placeOf, Cond.static yX6_placeOf, Cond.code yX6_placeOf cX6_placeOf 2 (some .int), Cond.methodLink RX6 42 yX2_nextOf, Cond.instanceMethod yX2_nextOf, Cond.selects RX2 yX2_nextOf yX2_nextOf, Cond.code yX2_nextOf cX2_nextOf 4 (some .int), Cond.fieldLink RX2 18 "AgainAgain$Machines" "nexts" "[I", Cond.methodLink RX6 46 yX0_gain, Cond.instanceMethod yX0_gain, Cond.selects RX0 yX0_gain yX0_gain, Cond.initialized RX0, Cond.code yX0_gain cX0_gain 3 (some .int), Cond.fieldLink RX0 9 "AgainAgain$Game" "gains" "[I", Cond.methodLink RX7 275 yX6_startAt, Cond.instanceMethod yX6_startAt, Cond.selects RX6 yX6_startAt yX6_startAt, Cond.code yX6_startAt cX6_startAt 4 none, Cond.fieldLink RX6 18 "AgainAgain$Walk" "firstMet" "[I", Cond.fieldLink RX6 21 "AgainAgain$Walk" "path" "[I", Cond.fieldLink RX6 24 "AgainAgain$Walk" "tail" "I", Cond.fieldLink RX6 28 "AgainAgain$Walk" "ring" "I", Cond.methodLink RX6 51 yJ7_fill_53178]
def wsX7_resists_r4 : List Cond := [Cond.static yJ7_fill_53178, Cond.initialized RJ7, Cond.code yJ7_fill_53178 cJ7_fill_53178 4 none, Cond.methodLink RX7 282 yX6_worthInto, Cond.instanceMethod yX6_worthInto, Cond.selects RX6 yX6_worthInto yX6_worthInto, Cond.code yX6_worthInto cX6_worthInto 11 none, Cond.methodLink RX6 67 yX0_rateOver, Cond.instanceMethod yX0_rateOver, Cond.selects RX0 yX0_rateOver yX0_rateOver, Cond.code yX0_rateOver cX0_rateOver 1 (some .long), Cond.fieldLink RX0 13 "AgainAgain$Game" "over" "J", Cond.methodLink RX6 71 yX0_rateUnder, Cond.instanceMethod yX0_rateUnder, Cond.selects RX0 yX0_rateUnder yX0_rateUnder, Cond.code yX0_rateUnder cX0_rateUnder 1 (some .long), Cond.fieldLink RX0 19 "AgainAgain$Game" "under" "J", Cond.methodLink RX6 74 yX6_power, Cond.static yX6_power, Cond.code yX6_power cX6_power 6 (some .long), Cond.methodLink RX6 78 yX6_weighedAlong, Cond.instanceMethod yX6_weighedAlong, Cond.selects RX6 yX6_weighedAlong yX6_weighedAlong, Cond.code yX6_weighedAlong cX6_weighedAlong 12 (some .long)]
def wsX7_resists_r5 : List Cond := [Cond.methodLink RX6 82 yX4_become, Cond.instanceMethod yX4_become, Cond.selects RX4 yX4_become yX4_become, Cond.initialized RX4, Cond.code yX4_become cX4_become 7 none, Cond.methodLink RX4 16 Lib.MathLoose.abs_long.x, Cond.static Lib.MathLoose.abs_long.x, Cond.initialized "java/lang/Math", Cond.code Lib.MathLoose.abs_long.x Lib.MathLoose.abs_long.code 2 (some .long), Cond.fieldLink RX4 7 "AgainAgain$Ratio" "top" "J", Cond.fieldLink RX4 13 "AgainAgain$Ratio" "bottom" "J", Cond.methodLink RX4 22 yX4_greatestShared, Cond.static yX4_greatestShared, Cond.code yX4_greatestShared cX4_greatestShared 11 (some .long), Cond.methodLink RX7 179 yX4_part, Cond.instanceMethod yX4_part, Cond.selects RX4 yX4_part yX4_part, Cond.code yX4_part cX4_part 2 (some .long), Cond.methodLink RX7 297 yX4_compareWith, Cond.instanceMethod yX4_compareWith, Cond.selects RX4 yX4_compareWith yX4_compareWith, Cond.code yX4_compareWith cX4_compareWith 5 (some .int), Cond.methodLink RX4 26 yJ13_compare_74951, Cond.static yJ13_compare_74951]
def wsX7_resists_r6 : List Cond := [Cond.initialized RJ13, Cond.code yJ13_compare_74951 cJ13_compare_74951 4 (some .int), Cond.methodLink RX7 197 yX7_oneIf, Cond.static yX7_oneIf, Cond.code yX7_oneIf cX7_oneIf 1 (some .int)]
def wsX7_resists : List Cond := .code yX7_resists cX7_resists 3 (some .int) :: ((wsX7_resists_r1 ++ (wsX7_resists_r2 ++ (wsX7_resists_r3 ++ (wsX7_resists_r4 ++ (wsX7_resists_r5 ++ wsX7_resists_r6))))) ++ wsX70 ++ wsX20 ++ wsX60 ++ wsX00 ++ wsX40)
def wsX7_invaders_r1 : List Cond := [Cond.fieldLink RX7 19 "AgainAgain" "machines" "LAgainAgain$Machines;", Cond.methodLink RX7 201 yX2_has, Cond.instanceMethod yX2_has, Cond.selects RX2 yX2_has yX2_has, Cond.initialized RX2, Cond.code yX2_has cX2_has 2 (some .boolean), Cond.fieldLink RX2 21 "AgainAgain$Machines" "many" "I", Cond.methodLink RX7 111 yX2_many, Cond.instanceMethod yX2_many, Cond.selects RX2 yX2_many yX2_many, Cond.code yX2_many cX2_many 1 (some .int), Cond.methodLink RX7 250 yX7_withstands, Cond.instanceMethod yX7_withstands, Cond.selects RX7 yX7_withstands yX7_withstands, Cond.initialized RX7, Cond.code yX7_withstands cX7_withstands 4 (some .boolean), Cond.methodLink RX7 301 yX7_compareWorths, Cond.instanceMethod yX7_compareWorths, Cond.selects RX7 yX7_compareWorths yX7_compareWorths, Cond.code yX7_compareWorths cX7_compareWorths 5 (some .int), Cond.fieldLink RX7 57 "AgainAgain" "ratio" "LAgainAgain$Ratio;", Cond.fieldLink RX7 61 "AgainAgain" "other" "LAgainAgain$Ratio;", Cond.methodLink RX7 183 yX7_matchWorth, Cond.instanceMethod yX7_matchWorth]
def wsX7_invaders_r2 : List Cond := [Cond.selects RX7 yX7_matchWorth yX7_matchWorth, Cond.code yX7_matchWorth cX7_matchWorth 4 none, Cond.fieldLink RX7 47 "AgainAgain" "walk" "LAgainAgain$Walk;", Cond.fieldLink RX7 10 "AgainAgain" "game" "LAgainAgain$Game;", Cond.methodLink RX7 148 yX7_playOut, Cond.instanceMethod yX7_playOut, Cond.selects RX7 yX7_playOut yX7_playOut, Cond.code yX7_playOut cX7_playOut 3 none, Cond.methodLink RX7 272 yX6_takeMatch, Cond.instanceMethod yX6_takeMatch, Cond.selects RX6 yX6_takeMatch yX6_takeMatch, Cond.initialized RX6, Cond.code yX6_takeMatch cX6_takeMatch 9 none, Cond.fieldLink RX6 11 "AgainAgain$Walk" "nexts" "[I", Cond.fieldLink RX6 15 "AgainAgain$Walk" "gains" "[I", Cond.methodLink RX6 31 yX2_statesOf, Cond.instanceMethod yX2_statesOf, Cond.selects RX2 yX2_statesOf yX2_statesOf, Cond.code yX2_statesOf cX2_statesOf 2 (some .int), Cond.fieldLink RX2 9 "AgainAgain$Machines" "sizes" "[I", Cond.methodLink RX6 35 yX2_actionOf, Cond.instanceMethod yX2_actionOf, Cond.selects RX2 yX2_actionOf yX2_actionOf, Cond.code yX2_actionOf cX2_actionOf 3 (some .int)]
def wsX7_invaders_r3 : List Cond := [Cond.fieldLink RX2 13 "AgainAgain$Machines" "actions" "[I", Cond.methodLink RX6 39 yX6_placeOf, Cond.static yX6_placeOf, Cond.code yX6_placeOf cX6_placeOf 2 (some .int), Cond.methodLink RX6 42 yX2_nextOf, Cond.instanceMethod yX2_nextOf, Cond.selects RX2 yX2_nextOf yX2_nextOf, Cond.code yX2_nextOf cX2_nextOf 4 (some .int), Cond.fieldLink RX2 18 "AgainAgain$Machines" "nexts" "[I", Cond.methodLink RX6 46 yX0_gain, Cond.instanceMethod yX0_gain, Cond.selects RX0 yX0_gain yX0_gain, Cond.initialized RX0, Cond.code yX0_gain cX0_gain 3 (some .int), Cond.fieldLink RX0 9 "AgainAgain$Game" "gains" "[I", Cond.methodLink RX7 275 yX6_startAt, Cond.instanceMethod yX6_startAt, Cond.selects RX6 yX6_startAt yX6_startAt, Cond.code yX6_startAt cX6_startAt 4 none, Cond.fieldLink RX6 18 "AgainAgain$Walk" "firstMet" "[I", Cond.fieldLink RX6 21 "AgainAgain$Walk" "path" "[I", Cond.fieldLink RX6 24 "AgainAgain$Walk" "tail" "I", Cond.fieldLink RX6 28 "AgainAgain$Walk" "ring" "I", Cond.methodLink RX6 51 yJ7_fill_53178]
def wsX7_invaders_r4 : List Cond := [Cond.static yJ7_fill_53178, Cond.initialized RJ7, Cond.code yJ7_fill_53178 cJ7_fill_53178 4 none, Cond.methodLink RX7 282 yX6_worthInto, Cond.instanceMethod yX6_worthInto, Cond.selects RX6 yX6_worthInto yX6_worthInto, Cond.code yX6_worthInto cX6_worthInto 11 none, Cond.methodLink RX6 67 yX0_rateOver, Cond.instanceMethod yX0_rateOver, Cond.selects RX0 yX0_rateOver yX0_rateOver, Cond.code yX0_rateOver cX0_rateOver 1 (some .long), Cond.fieldLink RX0 13 "AgainAgain$Game" "over" "J", Cond.methodLink RX6 71 yX0_rateUnder, Cond.instanceMethod yX0_rateUnder, Cond.selects RX0 yX0_rateUnder yX0_rateUnder, Cond.code yX0_rateUnder cX0_rateUnder 1 (some .long), Cond.fieldLink RX0 19 "AgainAgain$Game" "under" "J", Cond.methodLink RX6 74 yX6_power, Cond.static yX6_power, Cond.code yX6_power cX6_power 6 (some .long), Cond.methodLink RX6 78 yX6_weighedAlong, Cond.instanceMethod yX6_weighedAlong, Cond.selects RX6 yX6_weighedAlong yX6_weighedAlong, Cond.code yX6_weighedAlong cX6_weighedAlong 12 (some .long)]
def wsX7_invaders_r5 : List Cond := [Cond.methodLink RX6 82 yX4_become, Cond.instanceMethod yX4_become, Cond.selects RX4 yX4_become yX4_become, Cond.initialized RX4, Cond.code yX4_become cX4_become 7 none, Cond.methodLink RX4 16 Lib.MathLoose.abs_long.x, Cond.static Lib.MathLoose.abs_long.x, Cond.initialized "java/lang/Math", Cond.code Lib.MathLoose.abs_long.x Lib.MathLoose.abs_long.code 2 (some .long), Cond.fieldLink RX4 7 "AgainAgain$Ratio" "top" "J", Cond.fieldLink RX4 13 "AgainAgain$Ratio" "bottom" "J", Cond.methodLink RX4 22 yX4_greatestShared, Cond.static yX4_greatestShared, Cond.code yX4_greatestShared cX4_greatestShared 11 (some .long), Cond.methodLink RX7 179 yX4_part, Cond.instanceMethod yX4_part, Cond.selects RX4 yX4_part yX4_part, Cond.code yX4_part cX4_part 2 (some .long), Cond.methodLink RX7 297 yX4_compareWith, Cond.instanceMethod yX4_compareWith, Cond.selects RX4 yX4_compareWith yX4_compareWith, Cond.code yX4_compareWith cX4_compareWith 5 (some .int), Cond.methodLink RX4 26 yJ13_compare_74951, Cond.static yJ13_compare_74951]
def wsX7_invaders_r6 : List Cond := [Cond.initialized RJ13, Cond.code yJ13_compare_74951 cJ13_compare_74951 4 (some .int)]
def wsX7_invaders : List Cond := .code yX7_invaders cX7_invaders 4 (some .int) :: ((wsX7_invaders_r1 ++ (wsX7_invaders_r2 ++ (wsX7_invaders_r3 ++ (wsX7_invaders_r4 ++ (wsX7_invaders_r5 ++ wsX7_invaders_r6))))) ++ wsX70 ++ wsX20 ++ wsX60 ++ wsX00 ++ wsX40)
def wsX7_gainsAgainstAll_r1 : List Cond := [Cond.fieldLink RX7 19 "AgainAgain" "machines" "LAgainAgain$Machines;", Cond.methodLink RX7 111 yX2_many, Cond.instanceMethod yX2_many, Cond.selects RX2 yX2_many yX2_many, Cond.initialized RX2, Cond.code yX2_many cX2_many 1 (some .int), Cond.fieldLink RX2 21 "AgainAgain$Machines" "many" "I", Cond.methodLink RX7 170 yX7_gainsOf, Cond.instanceMethod yX7_gainsOf, Cond.selects RX7 yX7_gainsOf yX7_gainsOf, Cond.initialized RX7, Cond.code yX7_gainsOf cX7_gainsOf 4 (some .int), Cond.fieldLink RX7 47 "AgainAgain" "walk" "LAgainAgain$Walk;", Cond.methodLink RX7 148 yX7_playOut, Cond.instanceMethod yX7_playOut, Cond.selects RX7 yX7_playOut yX7_playOut, Cond.code yX7_playOut cX7_playOut 3 none, Cond.fieldLink RX7 10 "AgainAgain" "game" "LAgainAgain$Game;", Cond.methodLink RX7 272 yX6_takeMatch, Cond.instanceMethod yX6_takeMatch, Cond.selects RX6 yX6_takeMatch yX6_takeMatch, Cond.initialized RX6, Cond.code yX6_takeMatch cX6_takeMatch 9 none, Cond.fieldLink RX6 11 "AgainAgain$Walk" "nexts" "[I"]
def wsX7_gainsAgainstAll_r2 : List Cond := [Cond.fieldLink RX6 15 "AgainAgain$Walk" "gains" "[I", Cond.methodLink RX6 31 yX2_statesOf, Cond.instanceMethod yX2_statesOf, Cond.selects RX2 yX2_statesOf yX2_statesOf, Cond.code yX2_statesOf cX2_statesOf 2 (some .int), Cond.fieldLink RX2 9 "AgainAgain$Machines" "sizes" "[I", Cond.methodLink RX6 35 yX2_actionOf, Cond.instanceMethod yX2_actionOf, Cond.selects RX2 yX2_actionOf yX2_actionOf, Cond.code yX2_actionOf cX2_actionOf 3 (some .int), Cond.fieldLink RX2 13 "AgainAgain$Machines" "actions" "[I", Cond.methodLink RX6 39 yX6_placeOf, Cond.static yX6_placeOf, Cond.code yX6_placeOf cX6_placeOf 2 (some .int), Cond.methodLink RX6 42 yX2_nextOf, Cond.instanceMethod yX2_nextOf, Cond.selects RX2 yX2_nextOf yX2_nextOf, Cond.code yX2_nextOf cX2_nextOf 4 (some .int), Cond.fieldLink RX2 18 "AgainAgain$Machines" "nexts" "[I", Cond.methodLink RX6 46 yX0_gain, Cond.instanceMethod yX0_gain, Cond.selects RX0 yX0_gain yX0_gain, Cond.initialized RX0, Cond.code yX0_gain cX0_gain 3 (some .int)]
def wsX7_gainsAgainstAll_r3 : List Cond := [Cond.fieldLink RX0 9 "AgainAgain$Game" "gains" "[I", Cond.methodLink RX7 275 yX6_startAt, Cond.instanceMethod yX6_startAt, Cond.selects RX6 yX6_startAt yX6_startAt, Cond.code yX6_startAt cX6_startAt 4 none, Cond.fieldLink RX6 18 "AgainAgain$Walk" "firstMet" "[I", Cond.fieldLink RX6 21 "AgainAgain$Walk" "path" "[I", Cond.fieldLink RX6 24 "AgainAgain$Walk" "tail" "I", Cond.fieldLink RX6 28 "AgainAgain$Walk" "ring" "I", Cond.methodLink RX6 51 yJ7_fill_53178, Cond.static yJ7_fill_53178, Cond.initialized RJ7, Cond.code yJ7_fill_53178 cJ7_fill_53178 4 none, Cond.methodLink RX7 279 yX6_gainsOfFirst, Cond.instanceMethod yX6_gainsOfFirst, Cond.selects RX6 yX6_gainsOfFirst yX6_gainsOfFirst, Cond.code yX6_gainsOfFirst cX6_gainsOfFirst 3 (some .int), Cond.methodLink RX6 57 yX6_gainsAlong, Cond.instanceMethod yX6_gainsAlong, Cond.selects RX6 yX6_gainsAlong yX6_gainsAlong, Cond.code yX6_gainsAlong cX6_gainsAlong 5 (some .int), Cond.methodLink RX6 60 yX6_tailGains, Cond.instanceMethod yX6_tailGains, Cond.selects RX6 yX6_tailGains yX6_tailGains]
def wsX7_gainsAgainstAll_r4 : List Cond := [Cond.code yX6_tailGains cX6_tailGains 1 (some .int), Cond.methodLink RX6 64 yX6_ringGains, Cond.instanceMethod yX6_ringGains, Cond.selects RX6 yX6_ringGains yX6_ringGains, Cond.code yX6_ringGains cX6_ringGains 1 (some .int)]
def wsX7_gainsAgainstAll : List Cond := .code yX7_gainsAgainstAll cX7_gainsAgainstAll 5 (some .int) :: ((wsX7_gainsAgainstAll_r1 ++ (wsX7_gainsAgainstAll_r2 ++ (wsX7_gainsAgainstAll_r3 ++ wsX7_gainsAgainstAll_r4))) ++ wsX70 ++ wsX20 ++ wsX60 ++ wsX00)
def wsX7_score_r1 : List Cond := [Cond.fieldLink RX7 19 "AgainAgain" "machines" "LAgainAgain$Machines;", Cond.constant RX7 157 (-1000000), Cond.methodLink RX7 201 yX2_has, Cond.instanceMethod yX2_has, Cond.selects RX2 yX2_has yX2_has, Cond.initialized RX2, Cond.code yX2_has cX2_has 2 (some .boolean), Cond.fieldLink RX2 21 "AgainAgain$Machines" "many" "I", Cond.methodLink RX7 72 yX7_within, Cond.static yX7_within, Cond.initialized RX7, Cond.code yX7_within cX7_within 3 (some .boolean), Cond.methodLink RX7 253 yX7_gainsAgainstAll, Cond.instanceMethod yX7_gainsAgainstAll, Cond.selects RX7 yX7_gainsAgainstAll yX7_gainsAgainstAll, Cond.code yX7_gainsAgainstAll cX7_gainsAgainstAll 5 (some .int), Cond.methodLink RX7 111 yX2_many, Cond.instanceMethod yX2_many, Cond.selects RX2 yX2_many yX2_many, Cond.code yX2_many cX2_many 1 (some .int), Cond.methodLink RX7 170 yX7_gainsOf, Cond.instanceMethod yX7_gainsOf, Cond.selects RX7 yX7_gainsOf yX7_gainsOf, Cond.code yX7_gainsOf cX7_gainsOf 4 (some .int)]
def wsX7_score_r2 : List Cond := [Cond.fieldLink RX7 47 "AgainAgain" "walk" "LAgainAgain$Walk;", Cond.methodLink RX7 148 yX7_playOut, Cond.instanceMethod yX7_playOut, Cond.selects RX7 yX7_playOut yX7_playOut, Cond.code yX7_playOut cX7_playOut 3 none, Cond.fieldLink RX7 10 "AgainAgain" "game" "LAgainAgain$Game;", Cond.methodLink RX7 272 yX6_takeMatch, Cond.instanceMethod yX6_takeMatch, Cond.selects RX6 yX6_takeMatch yX6_takeMatch, Cond.initialized RX6, Cond.code yX6_takeMatch cX6_takeMatch 9 none, Cond.fieldLink RX6 11 "AgainAgain$Walk" "nexts" "[I", Cond.fieldLink RX6 15 "AgainAgain$Walk" "gains" "[I", Cond.methodLink RX6 31 yX2_statesOf, Cond.instanceMethod yX2_statesOf, Cond.selects RX2 yX2_statesOf yX2_statesOf, Cond.code yX2_statesOf cX2_statesOf 2 (some .int), Cond.fieldLink RX2 9 "AgainAgain$Machines" "sizes" "[I", Cond.methodLink RX6 35 yX2_actionOf, Cond.instanceMethod yX2_actionOf, Cond.selects RX2 yX2_actionOf yX2_actionOf, Cond.code yX2_actionOf cX2_actionOf 3 (some .int), Cond.fieldLink RX2 13 "AgainAgain$Machines" "actions" "[I", Cond.methodLink RX6 39 yX6_placeOf]
def wsX7_score_r3 : List Cond := [Cond.static yX6_placeOf, Cond.code yX6_placeOf cX6_placeOf 2 (some .int), Cond.methodLink RX6 42 yX2_nextOf, Cond.instanceMethod yX2_nextOf, Cond.selects RX2 yX2_nextOf yX2_nextOf, Cond.code yX2_nextOf cX2_nextOf 4 (some .int), Cond.fieldLink RX2 18 "AgainAgain$Machines" "nexts" "[I", Cond.methodLink RX6 46 yX0_gain, Cond.instanceMethod yX0_gain, Cond.selects RX0 yX0_gain yX0_gain, Cond.initialized RX0, Cond.code yX0_gain cX0_gain 3 (some .int), Cond.fieldLink RX0 9 "AgainAgain$Game" "gains" "[I", Cond.methodLink RX7 275 yX6_startAt, Cond.instanceMethod yX6_startAt, Cond.selects RX6 yX6_startAt yX6_startAt, Cond.code yX6_startAt cX6_startAt 4 none, Cond.fieldLink RX6 18 "AgainAgain$Walk" "firstMet" "[I", Cond.fieldLink RX6 21 "AgainAgain$Walk" "path" "[I", Cond.fieldLink RX6 24 "AgainAgain$Walk" "tail" "I", Cond.fieldLink RX6 28 "AgainAgain$Walk" "ring" "I", Cond.methodLink RX6 51 yJ7_fill_53178, Cond.static yJ7_fill_53178, Cond.initialized RJ7]
def wsX7_score_r4 : List Cond := [Cond.code yJ7_fill_53178 cJ7_fill_53178 4 none, Cond.methodLink RX7 279 yX6_gainsOfFirst, Cond.instanceMethod yX6_gainsOfFirst, Cond.selects RX6 yX6_gainsOfFirst yX6_gainsOfFirst, Cond.code yX6_gainsOfFirst cX6_gainsOfFirst 3 (some .int), Cond.methodLink RX6 57 yX6_gainsAlong, Cond.instanceMethod yX6_gainsAlong, Cond.selects RX6 yX6_gainsAlong yX6_gainsAlong, Cond.code yX6_gainsAlong cX6_gainsAlong 5 (some .int), Cond.methodLink RX6 60 yX6_tailGains, Cond.instanceMethod yX6_tailGains, Cond.selects RX6 yX6_tailGains yX6_tailGains, Cond.code yX6_tailGains cX6_tailGains 1 (some .int), Cond.methodLink RX6 64 yX6_ringGains, Cond.instanceMethod yX6_ringGains, Cond.selects RX6 yX6_ringGains yX6_ringGains, Cond.code yX6_ringGains cX6_ringGains 1 (some .int)]
def wsX7_score : List Cond := .code yX7_score cX7_score 3 (some .int) :: ((wsX7_score_r1 ++ (wsX7_score_r2 ++ (wsX7_score_r3 ++ wsX7_score_r4))) ++ wsX70 ++ wsX20 ++ wsX60 ++ wsX00)
def wsX7_machinesAheadOf : List Cond := .code yX7_machinesAheadOf cX7_machinesAheadOf 4 (some .int) :: ([.fieldLink RX7 19 "AgainAgain" "machines" "LAgainAgain$Machines;", .fieldLink RX7 64 "AgainAgain" "scores" "[I", .methodLink RX7 111 yX2_many, .instanceMethod yX2_many, .selects RX2 yX2_many yX2_many, .initialized RX2, .code yX2_many cX2_many 1 (some .int), .fieldLink RX2 21 "AgainAgain$Machines" "many" "I"] ++ wsX70 ++ wsX20)
def wsX7_place_r1 : List Cond := [Cond.fieldLink RX7 19 "AgainAgain" "machines" "LAgainAgain$Machines;", Cond.fieldLink RX7 64 "AgainAgain" "scores" "[I", Cond.methodLink RX7 72 yX7_within, Cond.static yX7_within, Cond.initialized RX7, Cond.code yX7_within cX7_within 3 (some .boolean), Cond.methodLink RX7 111 yX2_many, Cond.instanceMethod yX2_many, Cond.selects RX2 yX2_many yX2_many, Cond.initialized RX2, Cond.code yX2_many cX2_many 1 (some .int), Cond.fieldLink RX2 21 "AgainAgain$Machines" "many" "I", Cond.methodLink RX7 253 yX7_gainsAgainstAll, Cond.instanceMethod yX7_gainsAgainstAll, Cond.selects RX7 yX7_gainsAgainstAll yX7_gainsAgainstAll, Cond.code yX7_gainsAgainstAll cX7_gainsAgainstAll 5 (some .int), Cond.methodLink RX7 170 yX7_gainsOf, Cond.instanceMethod yX7_gainsOf, Cond.selects RX7 yX7_gainsOf yX7_gainsOf, Cond.code yX7_gainsOf cX7_gainsOf 4 (some .int), Cond.fieldLink RX7 47 "AgainAgain" "walk" "LAgainAgain$Walk;", Cond.methodLink RX7 148 yX7_playOut, Cond.instanceMethod yX7_playOut, Cond.selects RX7 yX7_playOut yX7_playOut]
def wsX7_place_r2 : List Cond := [Cond.code yX7_playOut cX7_playOut 3 none, Cond.fieldLink RX7 10 "AgainAgain" "game" "LAgainAgain$Game;", Cond.methodLink RX7 272 yX6_takeMatch, Cond.instanceMethod yX6_takeMatch, Cond.selects RX6 yX6_takeMatch yX6_takeMatch, Cond.initialized RX6, Cond.code yX6_takeMatch cX6_takeMatch 9 none, Cond.fieldLink RX6 11 "AgainAgain$Walk" "nexts" "[I", Cond.fieldLink RX6 15 "AgainAgain$Walk" "gains" "[I", Cond.methodLink RX6 31 yX2_statesOf, Cond.instanceMethod yX2_statesOf, Cond.selects RX2 yX2_statesOf yX2_statesOf, Cond.code yX2_statesOf cX2_statesOf 2 (some .int), Cond.fieldLink RX2 9 "AgainAgain$Machines" "sizes" "[I", Cond.methodLink RX6 35 yX2_actionOf, Cond.instanceMethod yX2_actionOf, Cond.selects RX2 yX2_actionOf yX2_actionOf, Cond.code yX2_actionOf cX2_actionOf 3 (some .int), Cond.fieldLink RX2 13 "AgainAgain$Machines" "actions" "[I", Cond.methodLink RX6 39 yX6_placeOf, Cond.static yX6_placeOf, Cond.code yX6_placeOf cX6_placeOf 2 (some .int), Cond.methodLink RX6 42 yX2_nextOf, Cond.instanceMethod yX2_nextOf]
def wsX7_place_r3 : List Cond := [Cond.selects RX2 yX2_nextOf yX2_nextOf, Cond.code yX2_nextOf cX2_nextOf 4 (some .int), Cond.fieldLink RX2 18 "AgainAgain$Machines" "nexts" "[I", Cond.methodLink RX6 46 yX0_gain, Cond.instanceMethod yX0_gain, Cond.selects RX0 yX0_gain yX0_gain, Cond.initialized RX0, Cond.code yX0_gain cX0_gain 3 (some .int), Cond.fieldLink RX0 9 "AgainAgain$Game" "gains" "[I", Cond.methodLink RX7 275 yX6_startAt, Cond.instanceMethod yX6_startAt, Cond.selects RX6 yX6_startAt yX6_startAt, Cond.code yX6_startAt cX6_startAt 4 none, Cond.fieldLink RX6 18 "AgainAgain$Walk" "firstMet" "[I", Cond.fieldLink RX6 21 "AgainAgain$Walk" "path" "[I", Cond.fieldLink RX6 24 "AgainAgain$Walk" "tail" "I", Cond.fieldLink RX6 28 "AgainAgain$Walk" "ring" "I", Cond.methodLink RX6 51 yJ7_fill_53178, Cond.static yJ7_fill_53178, Cond.initialized RJ7, Cond.code yJ7_fill_53178 cJ7_fill_53178 4 none, Cond.methodLink RX7 279 yX6_gainsOfFirst, Cond.instanceMethod yX6_gainsOfFirst, Cond.selects RX6 yX6_gainsOfFirst yX6_gainsOfFirst]
def wsX7_place_r4 : List Cond := [Cond.code yX6_gainsOfFirst cX6_gainsOfFirst 3 (some .int), Cond.methodLink RX6 57 yX6_gainsAlong, Cond.instanceMethod yX6_gainsAlong, Cond.selects RX6 yX6_gainsAlong yX6_gainsAlong, Cond.code yX6_gainsAlong cX6_gainsAlong 5 (some .int), Cond.methodLink RX6 60 yX6_tailGains, Cond.instanceMethod yX6_tailGains, Cond.selects RX6 yX6_tailGains yX6_tailGains, Cond.code yX6_tailGains cX6_tailGains 1 (some .int), Cond.methodLink RX6 64 yX6_ringGains, Cond.instanceMethod yX6_ringGains, Cond.selects RX6 yX6_ringGains yX6_ringGains, Cond.code yX6_ringGains cX6_ringGains 1 (some .int), Cond.methodLink RX7 256 yX7_machinesAheadOf, Cond.instanceMethod yX7_machinesAheadOf, Cond.selects RX7 yX7_machinesAheadOf yX7_machinesAheadOf, Cond.code yX7_machinesAheadOf cX7_machinesAheadOf 4 (some .int)]
def wsX7_place : List Cond := .code yX7_place cX7_place 4 (some .int) :: ((wsX7_place_r1 ++ (wsX7_place_r2 ++ (wsX7_place_r3 ++ wsX7_place_r4))) ++ wsX70 ++ wsX20 ++ wsX60 ++ wsX00)
def wsX7_restingPairs_r1 : List Cond := [Cond.fieldLink RX7 19 "AgainAgain" "machines" "LAgainAgain$Machines;", Cond.fieldLink RX7 40 "AgainAgain" "plans" "LAgainAgain$Plans;", Cond.fieldLink RX7 10 "AgainAgain" "game" "LAgainAgain$Game;", Cond.methodLink RX7 111 yX2_many, Cond.instanceMethod yX2_many, Cond.selects RX2 yX2_many yX2_many, Cond.initialized RX2, Cond.code yX2_many cX2_many 1 (some .int), Cond.fieldLink RX2 21 "AgainAgain$Machines" "many" "I", Cond.methodLink RX7 208 yX3_learn, Cond.instanceMethod yX3_learn, Cond.selects RX3 yX3_learn yX3_learn, Cond.initialized RX3, Cond.code yX3_learn cX3_learn 6 none, Cond.fieldLink RX3 32 "AgainAgain$Plans" "tried" "LAgainAgain$Ratio;", Cond.methodLink RX3 50 yX3_weigh, Cond.instanceMethod yX3_weigh, Cond.selects RX3 yX3_weigh yX3_weigh, Cond.code yX3_weigh cX3_weigh 7 none, Cond.fieldLink RX3 25 "AgainAgain$Plans" "walk" "LAgainAgain$Walk;", Cond.methodLink RX3 38 yX6_takePlan, Cond.instanceMethod yX6_takePlan, Cond.selects RX6 yX6_takePlan yX6_takePlan, Cond.initialized RX6]
def wsX7_restingPairs_r2 : List Cond := [Cond.code yX6_takePlan cX6_takePlan 8 none, Cond.fieldLink RX6 11 "AgainAgain$Walk" "nexts" "[I", Cond.fieldLink RX6 15 "AgainAgain$Walk" "gains" "[I", Cond.methodLink RX6 31 yX2_statesOf, Cond.instanceMethod yX2_statesOf, Cond.selects RX2 yX2_statesOf yX2_statesOf, Cond.code yX2_statesOf cX2_statesOf 2 (some .int), Cond.fieldLink RX2 9 "AgainAgain$Machines" "sizes" "[I", Cond.methodLink RX6 42 yX2_nextOf, Cond.instanceMethod yX2_nextOf, Cond.selects RX2 yX2_nextOf yX2_nextOf, Cond.code yX2_nextOf cX2_nextOf 4 (some .int), Cond.fieldLink RX2 18 "AgainAgain$Machines" "nexts" "[I", Cond.methodLink RX6 35 yX2_actionOf, Cond.instanceMethod yX2_actionOf, Cond.selects RX2 yX2_actionOf yX2_actionOf, Cond.code yX2_actionOf cX2_actionOf 3 (some .int), Cond.fieldLink RX2 13 "AgainAgain$Machines" "actions" "[I", Cond.methodLink RX6 46 yX0_gain, Cond.instanceMethod yX0_gain, Cond.selects RX0 yX0_gain yX0_gain, Cond.initialized RX0, Cond.code yX0_gain cX0_gain 3 (some .int), Cond.fieldLink RX0 9 "AgainAgain$Game" "gains" "[I"]
def wsX7_restingPairs_r3 : List Cond := [Cond.methodLink RX3 42 yX6_startAt, Cond.instanceMethod yX6_startAt, Cond.selects RX6 yX6_startAt yX6_startAt, Cond.code yX6_startAt cX6_startAt 4 none, Cond.fieldLink RX6 18 "AgainAgain$Walk" "firstMet" "[I", Cond.fieldLink RX6 21 "AgainAgain$Walk" "path" "[I", Cond.fieldLink RX6 24 "AgainAgain$Walk" "tail" "I", Cond.fieldLink RX6 28 "AgainAgain$Walk" "ring" "I", Cond.methodLink RX6 51 yJ7_fill_53178, Cond.static yJ7_fill_53178, Cond.initialized RJ7, Cond.code yJ7_fill_53178 cJ7_fill_53178 4 none, Cond.methodLink RX3 46 yX6_worthInto, Cond.instanceMethod yX6_worthInto, Cond.selects RX6 yX6_worthInto yX6_worthInto, Cond.code yX6_worthInto cX6_worthInto 11 none, Cond.methodLink RX6 67 yX0_rateOver, Cond.instanceMethod yX0_rateOver, Cond.selects RX0 yX0_rateOver yX0_rateOver, Cond.code yX0_rateOver cX0_rateOver 1 (some .long), Cond.fieldLink RX0 13 "AgainAgain$Game" "over" "J", Cond.methodLink RX6 71 yX0_rateUnder, Cond.instanceMethod yX0_rateUnder, Cond.selects RX0 yX0_rateUnder yX0_rateUnder]
def wsX7_restingPairs_r4 : List Cond := [Cond.code yX0_rateUnder cX0_rateUnder 1 (some .long), Cond.fieldLink RX0 19 "AgainAgain$Game" "under" "J", Cond.methodLink RX6 74 yX6_power, Cond.static yX6_power, Cond.code yX6_power cX6_power 6 (some .long), Cond.methodLink RX6 78 yX6_weighedAlong, Cond.instanceMethod yX6_weighedAlong, Cond.selects RX6 yX6_weighedAlong yX6_weighedAlong, Cond.code yX6_weighedAlong cX6_weighedAlong 12 (some .long), Cond.methodLink RX6 82 yX4_become, Cond.instanceMethod yX4_become, Cond.selects RX4 yX4_become yX4_become, Cond.initialized RX4, Cond.code yX4_become cX4_become 7 none, Cond.methodLink RX4 16 Lib.MathLoose.abs_long.x, Cond.static Lib.MathLoose.abs_long.x, Cond.initialized "java/lang/Math", Cond.code Lib.MathLoose.abs_long.x Lib.MathLoose.abs_long.code 2 (some .long), Cond.fieldLink RX4 7 "AgainAgain$Ratio" "top" "J", Cond.fieldLink RX4 13 "AgainAgain$Ratio" "bottom" "J", Cond.methodLink RX4 22 yX4_greatestShared, Cond.static yX4_greatestShared, Cond.code yX4_greatestShared cX4_greatestShared 11 (some .long), Cond.methodLink RX3 54 yX3_slotOf]
def wsX7_restingPairs_r5 : List Cond := [Cond.static yX3_slotOf, Cond.code yX3_slotOf cX3_slotOf 2 (some .int), Cond.methodLink RX3 58 yX3_keep, Cond.instanceMethod yX3_keep, Cond.selects RX3 yX3_keep yX3_keep, Cond.code yX3_keep cX3_keep 3 none, Cond.fieldLink RX3 11 "AgainAgain$Plans" "plans" "[I", Cond.fieldLink RX3 15 "AgainAgain$Plans" "tops" "[J", Cond.fieldLink RX3 19 "AgainAgain$Plans" "bottoms" "[J", Cond.methodLink RX3 73 yX4_part, Cond.instanceMethod yX4_part, Cond.selects RX4 yX4_part yX4_part, Cond.code yX4_part cX4_part 2 (some .long), Cond.methodLink RX3 62 yX2_statesOf, Cond.methodLink RX3 66 yX3_plansAgainst, Cond.static yX3_plansAgainst, Cond.code yX3_plansAgainst cX3_plansAgainst 3 (some .int), Cond.methodLink RX3 69 yX3_bestCompared, Cond.instanceMethod yX3_bestCompared, Cond.selects RX3 yX3_bestCompared yX3_bestCompared, Cond.code yX3_bestCompared cX3_bestCompared 4 (some .int), Cond.methodLink RX3 80 yX4_compareWith, Cond.instanceMethod yX4_compareWith, Cond.selects RX4 yX4_compareWith yX4_compareWith]
def wsX7_restingPairs_r6 : List Cond := [Cond.code yX4_compareWith cX4_compareWith 5 (some .int), Cond.methodLink RX4 26 yJ13_compare_74951, Cond.static yJ13_compare_74951, Cond.initialized RJ13, Cond.code yJ13_compare_74951 cJ13_compare_74951 4 (some .int), Cond.methodLink RX7 229 yX7_takeBothSides, Cond.instanceMethod yX7_takeBothSides, Cond.selects RX7 yX7_takeBothSides yX7_takeBothSides, Cond.initialized RX7, Cond.code yX7_takeBothSides cX7_takeBothSides 3 none, Cond.fieldLink RX7 47 "AgainAgain" "walk" "LAgainAgain$Walk;", Cond.fieldLink RX7 51 "AgainAgain" "back" "LAgainAgain$Walk;", Cond.methodLink RX7 272 yX6_takeMatch, Cond.instanceMethod yX6_takeMatch, Cond.selects RX6 yX6_takeMatch yX6_takeMatch, Cond.code yX6_takeMatch cX6_takeMatch 9 none, Cond.methodLink RX6 39 yX6_placeOf, Cond.static yX6_placeOf, Cond.code yX6_placeOf cX6_placeOf 2 (some .int), Cond.methodLink RX7 232 yX7_restFrom, Cond.instanceMethod yX7_restFrom, Cond.selects RX7 yX7_restFrom yX7_restFrom, Cond.code yX7_restFrom cX7_restFrom 5 (some .boolean), Cond.methodLink RX7 286 yX6_placeOf]
def wsX7_restingPairs_r7 : List Cond := [Cond.methodLink RX7 293 yX7_gainsByPlan, Cond.instanceMethod yX7_gainsByPlan, Cond.selects RX7 yX7_gainsByPlan yX7_gainsByPlan, Cond.code yX7_gainsByPlan cX7_gainsByPlan 5 (some .boolean), Cond.fieldLink RX7 57 "AgainAgain" "ratio" "LAgainAgain$Ratio;", Cond.methodLink RX7 275 yX6_startAt, Cond.methodLink RX7 282 yX6_worthInto, Cond.methodLink RX7 289 yX3_bestCompared]
def wsX7_restingPairs : List Cond := .code yX7_restingPairs cX7_restingPairs 4 (some .int) :: ((wsX7_restingPairs_r1 ++ (wsX7_restingPairs_r2 ++ (wsX7_restingPairs_r3 ++ (wsX7_restingPairs_r4 ++ (wsX7_restingPairs_r5 ++ (wsX7_restingPairs_r6 ++ wsX7_restingPairs_r7)))))) ++ wsX70 ++ wsX20 ++ wsX30 ++ wsX60 ++ wsX00 ++ wsX40)
def wsX7_count_r1 : List Cond := [Cond.fieldLink RX7 19 "AgainAgain" "machines" "LAgainAgain$Machines;", Cond.fieldLink RX7 33 "AgainAgain" "likeness" "LAgainAgain$Likeness;", Cond.fieldLink RX7 26 "AgainAgain" "sheets" "LAgainAgain$Sheets;", Cond.methodLink RX7 111 yX2_many, Cond.instanceMethod yX2_many, Cond.selects RX2 yX2_many yX2_many, Cond.initialized RX2, Cond.code yX2_many cX2_many 1 (some .int), Cond.fieldLink RX2 21 "AgainAgain$Machines" "many" "I", Cond.methodLink RX7 259 yX1_unlikeMachines, Cond.instanceMethod yX1_unlikeMachines, Cond.selects RX1 yX1_unlikeMachines yX1_unlikeMachines, Cond.initialized RX1, Cond.code yX1_unlikeMachines cX1_unlikeMachines 4 (some .int), Cond.methodLink RX1 19 yX2_many, Cond.methodLink RX1 25 yX1_isNew, Cond.instanceMethod yX1_isNew, Cond.selects RX1 yX1_isNew yX1_isNew, Cond.code yX1_isNew cX1_isNew 4 (some .boolean), Cond.methodLink RX1 29 yX1_areLike, Cond.instanceMethod yX1_areLike, Cond.selects RX1 yX1_areLike yX1_areLike, Cond.code yX1_areLike cX1_areLike 4 (some .boolean), Cond.methodLink RX1 15 yX1_statesLike]
def wsX7_count_r2 : List Cond := [Cond.instanceMethod yX1_statesLike, Cond.selects RX1 yX1_statesLike yX1_statesLike, Cond.code yX1_statesLike cX1_statesLike 13 (some .boolean), Cond.fieldLink RX1 9 "AgainAgain$Likeness" "pairs" "[I", Cond.methodLink RX1 55 yX6_placeOf, Cond.static yX6_placeOf, Cond.initialized RX6, Cond.code yX6_placeOf cX6_placeOf 2 (some .int), Cond.methodLink RX1 59 yX6_mine, Cond.static yX6_mine, Cond.code yX6_mine cX6_mine 1 (some .int), Cond.methodLink RX1 62 yX6_theirs, Cond.static yX6_theirs, Cond.code yX6_theirs cX6_theirs 1 (some .int), Cond.methodLink RX1 65 yX2_actionOf, Cond.instanceMethod yX2_actionOf, Cond.selects RX2 yX2_actionOf yX2_actionOf, Cond.code yX2_actionOf cX2_actionOf 3 (some .int), Cond.fieldLink RX2 13 "AgainAgain$Machines" "actions" "[I", Cond.methodLink RX1 51 yX2_nextOf, Cond.instanceMethod yX2_nextOf, Cond.selects RX2 yX2_nextOf yX2_nextOf, Cond.code yX2_nextOf cX2_nextOf 4 (some .int), Cond.fieldLink RX2 18 "AgainAgain$Machines" "nexts" "[I"]
def wsX7_count_r3 : List Cond := [Cond.methodLink RX1 41 yX1_holds, Cond.static yX1_holds, Cond.code yX1_holds cX1_holds 2 (some .boolean), Cond.methodLink RX7 263 yX7_restingPairs, Cond.instanceMethod yX7_restingPairs, Cond.selects RX7 yX7_restingPairs yX7_restingPairs, Cond.initialized RX7, Cond.code yX7_restingPairs cX7_restingPairs 4 (some .int), Cond.fieldLink RX7 40 "AgainAgain" "plans" "LAgainAgain$Plans;", Cond.fieldLink RX7 10 "AgainAgain" "game" "LAgainAgain$Game;", Cond.methodLink RX7 208 yX3_learn, Cond.instanceMethod yX3_learn, Cond.selects RX3 yX3_learn yX3_learn, Cond.initialized RX3, Cond.code yX3_learn cX3_learn 6 none, Cond.fieldLink RX3 32 "AgainAgain$Plans" "tried" "LAgainAgain$Ratio;", Cond.methodLink RX3 50 yX3_weigh, Cond.instanceMethod yX3_weigh, Cond.selects RX3 yX3_weigh yX3_weigh, Cond.code yX3_weigh cX3_weigh 7 none, Cond.fieldLink RX3 25 "AgainAgain$Plans" "walk" "LAgainAgain$Walk;", Cond.methodLink RX3 38 yX6_takePlan, Cond.instanceMethod yX6_takePlan, Cond.selects RX6 yX6_takePlan yX6_takePlan]
def wsX7_count_r4 : List Cond := [Cond.code yX6_takePlan cX6_takePlan 8 none, Cond.fieldLink RX6 11 "AgainAgain$Walk" "nexts" "[I", Cond.fieldLink RX6 15 "AgainAgain$Walk" "gains" "[I", Cond.methodLink RX6 31 yX2_statesOf, Cond.instanceMethod yX2_statesOf, Cond.selects RX2 yX2_statesOf yX2_statesOf, Cond.code yX2_statesOf cX2_statesOf 2 (some .int), Cond.fieldLink RX2 9 "AgainAgain$Machines" "sizes" "[I", Cond.methodLink RX6 42 yX2_nextOf, Cond.methodLink RX6 35 yX2_actionOf, Cond.methodLink RX6 46 yX0_gain, Cond.instanceMethod yX0_gain, Cond.selects RX0 yX0_gain yX0_gain, Cond.initialized RX0, Cond.code yX0_gain cX0_gain 3 (some .int), Cond.fieldLink RX0 9 "AgainAgain$Game" "gains" "[I", Cond.methodLink RX3 42 yX6_startAt, Cond.instanceMethod yX6_startAt, Cond.selects RX6 yX6_startAt yX6_startAt, Cond.code yX6_startAt cX6_startAt 4 none, Cond.fieldLink RX6 18 "AgainAgain$Walk" "firstMet" "[I", Cond.fieldLink RX6 21 "AgainAgain$Walk" "path" "[I", Cond.fieldLink RX6 24 "AgainAgain$Walk" "tail" "I", Cond.fieldLink RX6 28 "AgainAgain$Walk" "ring" "I"]
def wsX7_count_r5 : List Cond := [Cond.methodLink RX6 51 yJ7_fill_53178, Cond.static yJ7_fill_53178, Cond.initialized RJ7, Cond.code yJ7_fill_53178 cJ7_fill_53178 4 none, Cond.methodLink RX3 46 yX6_worthInto, Cond.instanceMethod yX6_worthInto, Cond.selects RX6 yX6_worthInto yX6_worthInto, Cond.code yX6_worthInto cX6_worthInto 11 none, Cond.methodLink RX6 67 yX0_rateOver, Cond.instanceMethod yX0_rateOver, Cond.selects RX0 yX0_rateOver yX0_rateOver, Cond.code yX0_rateOver cX0_rateOver 1 (some .long), Cond.fieldLink RX0 13 "AgainAgain$Game" "over" "J", Cond.methodLink RX6 71 yX0_rateUnder, Cond.instanceMethod yX0_rateUnder, Cond.selects RX0 yX0_rateUnder yX0_rateUnder, Cond.code yX0_rateUnder cX0_rateUnder 1 (some .long), Cond.fieldLink RX0 19 "AgainAgain$Game" "under" "J", Cond.methodLink RX6 74 yX6_power, Cond.static yX6_power, Cond.code yX6_power cX6_power 6 (some .long), Cond.methodLink RX6 78 yX6_weighedAlong, Cond.instanceMethod yX6_weighedAlong, Cond.selects RX6 yX6_weighedAlong yX6_weighedAlong]
def wsX7_count_r6 : List Cond := [Cond.code yX6_weighedAlong cX6_weighedAlong 12 (some .long), Cond.methodLink RX6 82 yX4_become, Cond.instanceMethod yX4_become, Cond.selects RX4 yX4_become yX4_become, Cond.initialized RX4, Cond.code yX4_become cX4_become 7 none, Cond.methodLink RX4 16 Lib.MathLoose.abs_long.x, Cond.static Lib.MathLoose.abs_long.x, Cond.initialized "java/lang/Math", Cond.code Lib.MathLoose.abs_long.x Lib.MathLoose.abs_long.code 2 (some .long), Cond.fieldLink RX4 7 "AgainAgain$Ratio" "top" "J", Cond.fieldLink RX4 13 "AgainAgain$Ratio" "bottom" "J", Cond.methodLink RX4 22 yX4_greatestShared, Cond.static yX4_greatestShared, Cond.code yX4_greatestShared cX4_greatestShared 11 (some .long), Cond.methodLink RX3 54 yX3_slotOf, Cond.static yX3_slotOf, Cond.code yX3_slotOf cX3_slotOf 2 (some .int), Cond.methodLink RX3 58 yX3_keep, Cond.instanceMethod yX3_keep, Cond.selects RX3 yX3_keep yX3_keep, Cond.code yX3_keep cX3_keep 3 none, Cond.fieldLink RX3 11 "AgainAgain$Plans" "plans" "[I", Cond.fieldLink RX3 15 "AgainAgain$Plans" "tops" "[J"]
def wsX7_count_r7 : List Cond := [Cond.fieldLink RX3 19 "AgainAgain$Plans" "bottoms" "[J", Cond.methodLink RX3 73 yX4_part, Cond.instanceMethod yX4_part, Cond.selects RX4 yX4_part yX4_part, Cond.code yX4_part cX4_part 2 (some .long), Cond.methodLink RX3 62 yX2_statesOf, Cond.methodLink RX3 66 yX3_plansAgainst, Cond.static yX3_plansAgainst, Cond.code yX3_plansAgainst cX3_plansAgainst 3 (some .int), Cond.methodLink RX3 69 yX3_bestCompared, Cond.instanceMethod yX3_bestCompared, Cond.selects RX3 yX3_bestCompared yX3_bestCompared, Cond.code yX3_bestCompared cX3_bestCompared 4 (some .int), Cond.methodLink RX3 80 yX4_compareWith, Cond.instanceMethod yX4_compareWith, Cond.selects RX4 yX4_compareWith yX4_compareWith, Cond.code yX4_compareWith cX4_compareWith 5 (some .int), Cond.methodLink RX4 26 yJ13_compare_74951, Cond.static yJ13_compare_74951, Cond.initialized RJ13, Cond.code yJ13_compare_74951 cJ13_compare_74951 4 (some .int), Cond.methodLink RX7 229 yX7_takeBothSides, Cond.instanceMethod yX7_takeBothSides, Cond.selects RX7 yX7_takeBothSides yX7_takeBothSides]
def wsX7_count_r8 : List Cond := [Cond.code yX7_takeBothSides cX7_takeBothSides 3 none, Cond.fieldLink RX7 47 "AgainAgain" "walk" "LAgainAgain$Walk;", Cond.fieldLink RX7 51 "AgainAgain" "back" "LAgainAgain$Walk;", Cond.methodLink RX7 272 yX6_takeMatch, Cond.instanceMethod yX6_takeMatch, Cond.selects RX6 yX6_takeMatch yX6_takeMatch, Cond.code yX6_takeMatch cX6_takeMatch 9 none, Cond.methodLink RX6 39 yX6_placeOf, Cond.methodLink RX7 232 yX7_restFrom, Cond.instanceMethod yX7_restFrom, Cond.selects RX7 yX7_restFrom yX7_restFrom, Cond.code yX7_restFrom cX7_restFrom 5 (some .boolean), Cond.methodLink RX7 286 yX6_placeOf, Cond.methodLink RX7 293 yX7_gainsByPlan, Cond.instanceMethod yX7_gainsByPlan, Cond.selects RX7 yX7_gainsByPlan yX7_gainsByPlan, Cond.code yX7_gainsByPlan cX7_gainsByPlan 5 (some .boolean), Cond.fieldLink RX7 57 "AgainAgain" "ratio" "LAgainAgain$Ratio;", Cond.methodLink RX7 275 yX6_startAt, Cond.methodLink RX7 282 yX6_worthInto, Cond.methodLink RX7 289 yX3_bestCompared, Cond.methodLink RX7 127 yX5_isThere, Cond.instanceMethod yX5_isThere, Cond.selects RX5 yX5_isThere yX5_isThere]
def wsX7_count_r9 : List Cond := [Cond.initialized RX5, Cond.code yX5_isThere cX5_isThere 2 (some .boolean), Cond.fieldLink RX5 9 "AgainAgain$Sheets" "lanes" "[I", Cond.methodLink RX7 266 yX5_cellsOf, Cond.instanceMethod yX5_cellsOf, Cond.selects RX5 yX5_cellsOf yX5_cellsOf, Cond.code yX5_cellsOf cX5_cellsOf 2 (some .int), Cond.fieldLink RX5 13 "AgainAgain$Sheets" "sizes" "[I"]
def wsX7_count : List Cond := .code yX7_count cX7_count 2 (some .int) :: ((wsX7_count_r1 ++ (wsX7_count_r2 ++ (wsX7_count_r3 ++ (wsX7_count_r4 ++ (wsX7_count_r5 ++ (wsX7_count_r6 ++ (wsX7_count_r7 ++ (wsX7_count_r8 ++ wsX7_count_r9)))))))) ++ wsX70 ++ wsX20 ++ wsX10 ++ wsX30 ++ wsX60 ++ wsX00 ++ wsX40 ++ wsX50)
def wsX8_init : List Cond := .code yX8_init cX8_init 2 none :: ([.methodLink RX8 1 objectInit, .instanceMethod objectInit, .code objectInit ⟨#[0xb1]⟩ 1 none, .arrayClass .int, .fieldLink RX8 7 "AgainAgainModel" "pays" "[I", .fieldLink RX8 13 "AgainAgainModel" "up" "I", .fieldLink RX8 17 "AgainAgainModel" "by" "I", .fieldLink RX8 20 "AgainAgainModel" "many" "[I", .fieldLink RX8 23 "AgainAgainModel" "acts" "[I", .fieldLink RX8 26 "AgainAgainModel" "nexts" "[I", .fieldLink RX8 29 "AgainAgainModel" "lanes" "[I", .fieldLink RX8 32 "AgainAgainModel" "sizes" "[I", .fieldLink RX8 35 "AgainAgainModel" "cells" "[I", .fieldLink RX8 38 "AgainAgainModel" "row" "[I", .fieldLink RX8 41 "AgainAgainModel" "seenAt" "[I", .arrayClass .boolean, .fieldLink RX8 44 "AgainAgainModel" "unlike" "[Z", .fieldLink RX8 48 "AgainAgainModel" "scores" "[I"] ++ wsX80)
def wsX8_in : List Cond := .code yX8_in cX8_in 6 (some .boolean) :: ([])
def wsX8_pay : List Cond := .code yX8_pay cX8_pay 4 (some .int) :: ([.constantLong RX8 51 (2), .constantLong RX8 57 (-50), .constantLong RX8 59 (50), .fieldLink RX8 7 "AgainAgainModel" "pays" "[I", .methodLink RX8 53 yX8_in, .static yX8_in, .initialized RX8, .code yX8_in cX8_in 6 (some .boolean)] ++ wsX80)
def wsX8_discount : List Cond := .code yX8_discount cX8_discount 3 (some .int) :: ([.constantLong RX8 51 (2), .constantLong RX8 61 (4), .fieldLink RX8 13 "AgainAgainModel" "up" "I", .fieldLink RX8 17 "AgainAgainModel" "by" "I", .methodLink RX8 53 yX8_in, .static yX8_in, .initialized RX8, .code yX8_in cX8_in 6 (some .boolean)] ++ wsX80)
def wsX8_isMachine : List Cond := .code yX8_isMachine cX8_isMachine 2 (some .boolean) :: ([.fieldLink RX8 63 "AgainAgainModel" "machines" "I", .methodLink RX8 53 yX8_in, .static yX8_in, .initialized RX8, .code yX8_in cX8_in 6 (some .boolean)] ++ wsX80)
def wsX8_isState : List Cond := .code yX8_isState cX8_isState 3 (some .boolean) :: ([.fieldLink RX8 20 "AgainAgainModel" "many" "[I", .methodLink RX8 66 yX8_isMachine, .instanceMethod yX8_isMachine, .selects RX8 yX8_isMachine yX8_isMachine, .initialized RX8, .code yX8_isMachine cX8_isMachine 2 (some .boolean), .fieldLink RX8 63 "AgainAgainModel" "machines" "I", .methodLink RX8 53 yX8_in, .static yX8_in, .code yX8_in cX8_in 6 (some .boolean)] ++ wsX80)
def wsX8_machine : List Cond := .code yX8_machine cX8_machine 4 (some .int) :: ([.constantLong RX8 61 (4), .fieldLink RX8 63 "AgainAgainModel" "machines" "I", .fieldLink RX8 20 "AgainAgainModel" "many" "[I", .fieldLink RX8 23 "AgainAgainModel" "acts" "[I", .fieldLink RX8 26 "AgainAgainModel" "nexts" "[I", .methodLink RX8 53 yX8_in, .static yX8_in, .initialized RX8, .code yX8_in cX8_in 6 (some .boolean)] ++ wsX80)
def wsX8_does : List Cond := .code yX8_does cX8_does 4 (some .int) :: ([.constantLong RX8 51 (2), .fieldLink RX8 23 "AgainAgainModel" "acts" "[I", .methodLink RX8 70 yX8_isState, .instanceMethod yX8_isState, .selects RX8 yX8_isState yX8_isState, .initialized RX8, .code yX8_isState cX8_isState 3 (some .boolean), .fieldLink RX8 20 "AgainAgainModel" "many" "[I", .methodLink RX8 66 yX8_isMachine, .instanceMethod yX8_isMachine, .selects RX8 yX8_isMachine yX8_isMachine, .code yX8_isMachine cX8_isMachine 2 (some .boolean), .fieldLink RX8 63 "AgainAgainModel" "machines" "I", .methodLink RX8 53 yX8_in, .static yX8_in, .code yX8_in cX8_in 6 (some .boolean)] ++ wsX80)
def wsX8_goes : List Cond := .code yX8_goes cX8_goes 5 (some .int) :: ([.constantLong RX8 51 (2), .fieldLink RX8 26 "AgainAgainModel" "nexts" "[I", .methodLink RX8 70 yX8_isState, .instanceMethod yX8_isState, .selects RX8 yX8_isState yX8_isState, .initialized RX8, .code yX8_isState cX8_isState 3 (some .boolean), .fieldLink RX8 20 "AgainAgainModel" "many" "[I", .methodLink RX8 66 yX8_isMachine, .instanceMethod yX8_isMachine, .selects RX8 yX8_isMachine yX8_isMachine, .code yX8_isMachine cX8_isMachine 2 (some .boolean), .fieldLink RX8 63 "AgainAgainModel" "machines" "I", .methodLink RX8 53 yX8_in, .static yX8_in, .code yX8_in cX8_in 6 (some .boolean)] ++ wsX80)
def wsX8_told : List Cond := .code yX8_told cX8_told 4 (some .int) :: ([.constantLong RX8 74 (3), .fieldLink RX8 23 "AgainAgainModel" "acts" "[I", .fieldLink RX8 26 "AgainAgainModel" "nexts" "[I", .methodLink RX8 70 yX8_isState, .instanceMethod yX8_isState, .selects RX8 yX8_isState yX8_isState, .initialized RX8, .code yX8_isState cX8_isState 3 (some .boolean), .fieldLink RX8 20 "AgainAgainModel" "many" "[I", .methodLink RX8 66 yX8_isMachine, .instanceMethod yX8_isMachine, .selects RX8 yX8_isMachine yX8_isMachine, .code yX8_isMachine cX8_isMachine 2 (some .boolean), .fieldLink RX8 63 "AgainAgainModel" "machines" "I", .methodLink RX8 53 yX8_in, .static yX8_in, .code yX8_in cX8_in 6 (some .boolean)] ++ wsX80)
def wsX8_drop : List Cond := .code yX8_drop cX8_drop 1 (some .int) :: ([.fieldLink RX8 63 "AgainAgainModel" "machines" "I"] ++ wsX80)
def wsX8_isSheet : List Cond := .code yX8_isSheet cX8_isSheet 2 (some .boolean) :: ([.constantLong RX8 74 (3), .constantLong RX8 51 (2), .methodLink RX8 53 yX8_in, .static yX8_in, .initialized RX8, .code yX8_in cX8_in 6 (some .boolean)])
def wsX8_sheet : List Cond := .code yX8_sheet cX8_sheet 5 (some .int) :: ([.fieldLink RX8 29 "AgainAgainModel" "lanes" "[I", .fieldLink RX8 32 "AgainAgainModel" "sizes" "[I", .fieldLink RX8 35 "AgainAgainModel" "cells" "[I", .methodLink RX8 76 yX8_isSheet, .static yX8_isSheet, .initialized RX8, .code yX8_isSheet cX8_isSheet 2 (some .boolean), .constantLong RX8 74 (3), .constantLong RX8 51 (2), .methodLink RX8 53 yX8_in, .static yX8_in, .code yX8_in cX8_in 6 (some .boolean)] ++ wsX80)
def wsX8_lay : List Cond := .code yX8_lay cX8_lay 4 (some .int) :: ([.fieldLink RX8 29 "AgainAgainModel" "lanes" "[I", .fieldLink RX8 32 "AgainAgainModel" "sizes" "[I", .fieldLink RX8 35 "AgainAgainModel" "cells" "[I", .methodLink RX8 76 yX8_isSheet, .static yX8_isSheet, .initialized RX8, .code yX8_isSheet cX8_isSheet 2 (some .boolean), .constantLong RX8 74 (3), .constantLong RX8 51 (2), .methodLink RX8 53 yX8_in, .static yX8_in, .code yX8_in cX8_in 6 (some .boolean)] ++ wsX80)
def wsX8_draw : List Cond := .code yX8_draw cX8_draw 8 (some .int) :: ([.constantLong RX8 61 (4), .fieldLink RX8 29 "AgainAgainModel" "lanes" "[I", .fieldLink RX8 32 "AgainAgainModel" "sizes" "[I", .fieldLink RX8 35 "AgainAgainModel" "cells" "[I", .constantLong RX8 51 (2), .fieldLink RX8 23 "AgainAgainModel" "acts" "[I", .fieldLink RX8 26 "AgainAgainModel" "nexts" "[I", .methodLink RX8 76 yX8_isSheet, .static yX8_isSheet, .initialized RX8, .code yX8_isSheet cX8_isSheet 2 (some .boolean), .constantLong RX8 74 (3), .methodLink RX8 53 yX8_in, .static yX8_in, .code yX8_in cX8_in 6 (some .boolean), .methodLink RX8 79 yX8_machine, .instanceMethod yX8_machine, .selects RX8 yX8_machine yX8_machine, .code yX8_machine cX8_machine 4 (some .int), .fieldLink RX8 63 "AgainAgainModel" "machines" "I", .fieldLink RX8 20 "AgainAgainModel" "many" "[I"] ++ wsX80)
def wsX8_after : List Cond := .code yX8_after cX8_after 6 (some .int) :: ([.fieldLink RX8 26 "AgainAgainModel" "nexts" "[I"] ++ wsX80)
def wsX8_mine : List Cond := .code yX8_mine cX8_mine 3 (some .int) :: ([.fieldLink RX8 23 "AgainAgainModel" "acts" "[I"] ++ wsX80)
def wsX8_theirs : List Cond := .code yX8_theirs cX8_theirs 3 (some .int) :: ([.fieldLink RX8 23 "AgainAgainModel" "acts" "[I"] ++ wsX80)
def wsX8_next : List Cond := .code yX8_next cX8_next 4 (some .int) :: ([.methodLink RX8 83 yX8_mine, .instanceMethod yX8_mine, .selects RX8 yX8_mine yX8_mine, .initialized RX8, .code yX8_mine cX8_mine 3 (some .int), .fieldLink RX8 23 "AgainAgainModel" "acts" "[I", .methodLink RX8 87 yX8_theirs, .instanceMethod yX8_theirs, .selects RX8 yX8_theirs yX8_theirs, .code yX8_theirs cX8_theirs 3 (some .int), .methodLink RX8 90 yX8_after, .instanceMethod yX8_after, .selects RX8 yX8_after yX8_after, .code yX8_after cX8_after 6 (some .int), .fieldLink RX8 26 "AgainAgainModel" "nexts" "[I"] ++ wsX80)
def wsX8_payOf : List Cond := .code yX8_payOf cX8_payOf 4 (some .int) :: ([.fieldLink RX8 7 "AgainAgainModel" "pays" "[I", .methodLink RX8 83 yX8_mine, .instanceMethod yX8_mine, .selects RX8 yX8_mine yX8_mine, .initialized RX8, .code yX8_mine cX8_mine 3 (some .int), .fieldLink RX8 23 "AgainAgainModel" "acts" "[I", .methodLink RX8 87 yX8_theirs, .instanceMethod yX8_theirs, .selects RX8 yX8_theirs yX8_theirs, .code yX8_theirs cX8_theirs 3 (some .int)] ++ wsX80)
def wsX8_plays_r1 : List Cond := [Cond.fieldLink RX8 41 "AgainAgainModel" "seenAt" "[I", Cond.fieldLink RX8 38 "AgainAgainModel" "row" "[I", Cond.fieldLink RX8 101 "AgainAgainModel" "tail" "I", Cond.fieldLink RX8 104 "AgainAgainModel" "ring" "I", Cond.methodLink RX8 94 yX8_payOf, Cond.instanceMethod yX8_payOf, Cond.selects RX8 yX8_payOf yX8_payOf, Cond.initialized RX8, Cond.code yX8_payOf cX8_payOf 4 (some .int), Cond.fieldLink RX8 7 "AgainAgainModel" "pays" "[I", Cond.methodLink RX8 83 yX8_mine, Cond.instanceMethod yX8_mine, Cond.selects RX8 yX8_mine yX8_mine, Cond.code yX8_mine cX8_mine 3 (some .int), Cond.fieldLink RX8 23 "AgainAgainModel" "acts" "[I", Cond.methodLink RX8 87 yX8_theirs, Cond.instanceMethod yX8_theirs, Cond.selects RX8 yX8_theirs yX8_theirs, Cond.code yX8_theirs cX8_theirs 3 (some .int), Cond.methodLink RX8 98 yX8_next, Cond.instanceMethod yX8_next, Cond.selects RX8 yX8_next yX8_next, Cond.code yX8_next cX8_next 4 (some .int), Cond.methodLink RX8 90 yX8_after]
def wsX8_plays_r2 : List Cond := [Cond.instanceMethod yX8_after, Cond.selects RX8 yX8_after yX8_after, Cond.code yX8_after cX8_after 6 (some .int), Cond.fieldLink RX8 26 "AgainAgainModel" "nexts" "[I"]
def wsX8_plays : List Cond := .code yX8_plays cX8_plays 6 none :: ((wsX8_plays_r1 ++ wsX8_plays_r2) ++ wsX80)
def wsX8_areBoth : List Cond := .code yX8_areBoth cX8_areBoth 3 (some .boolean) :: ([.methodLink RX8 66 yX8_isMachine, .instanceMethod yX8_isMachine, .selects RX8 yX8_isMachine yX8_isMachine, .initialized RX8, .code yX8_isMachine cX8_isMachine 2 (some .boolean), .fieldLink RX8 63 "AgainAgainModel" "machines" "I", .methodLink RX8 53 yX8_in, .static yX8_in, .code yX8_in cX8_in 6 (some .boolean)] ++ wsX80)
def wsX8_action_r1 : List Cond := [Cond.constantLong RX8 110 (1000), Cond.methodLink RX8 107 yX8_areBoth, Cond.instanceMethod yX8_areBoth, Cond.selects RX8 yX8_areBoth yX8_areBoth, Cond.initialized RX8, Cond.code yX8_areBoth cX8_areBoth 3 (some .boolean), Cond.methodLink RX8 66 yX8_isMachine, Cond.instanceMethod yX8_isMachine, Cond.selects RX8 yX8_isMachine yX8_isMachine, Cond.code yX8_isMachine cX8_isMachine 2 (some .boolean), Cond.fieldLink RX8 63 "AgainAgainModel" "machines" "I", Cond.methodLink RX8 53 yX8_in, Cond.static yX8_in, Cond.code yX8_in cX8_in 6 (some .boolean), Cond.methodLink RX8 98 yX8_next, Cond.instanceMethod yX8_next, Cond.selects RX8 yX8_next yX8_next, Cond.code yX8_next cX8_next 4 (some .int), Cond.methodLink RX8 83 yX8_mine, Cond.instanceMethod yX8_mine, Cond.selects RX8 yX8_mine yX8_mine, Cond.code yX8_mine cX8_mine 3 (some .int), Cond.fieldLink RX8 23 "AgainAgainModel" "acts" "[I", Cond.methodLink RX8 87 yX8_theirs]
def wsX8_action_r2 : List Cond := [Cond.instanceMethod yX8_theirs, Cond.selects RX8 yX8_theirs yX8_theirs, Cond.code yX8_theirs cX8_theirs 3 (some .int), Cond.methodLink RX8 90 yX8_after, Cond.instanceMethod yX8_after, Cond.selects RX8 yX8_after yX8_after, Cond.code yX8_after cX8_after 6 (some .int), Cond.fieldLink RX8 26 "AgainAgainModel" "nexts" "[I"]
def wsX8_action : List Cond := .code yX8_action cX8_action 6 (some .int) :: ((wsX8_action_r1 ++ wsX8_action_r2) ++ wsX80)
def wsX8_sumOf : List Cond := .code yX8_sumOf cX8_sumOf 5 (some .int) :: ([.fieldLink RX8 38 "AgainAgainModel" "row" "[I"] ++ wsX80)
def wsX8_match_r1 : List Cond := [Cond.constantLong RX8 74 (3), Cond.constant RX8 112 (-1000000), Cond.fieldLink RX8 101 "AgainAgainModel" "tail" "I", Cond.fieldLink RX8 104 "AgainAgainModel" "ring" "I", Cond.methodLink RX8 107 yX8_areBoth, Cond.instanceMethod yX8_areBoth, Cond.selects RX8 yX8_areBoth yX8_areBoth, Cond.initialized RX8, Cond.code yX8_areBoth cX8_areBoth 3 (some .boolean), Cond.methodLink RX8 66 yX8_isMachine, Cond.instanceMethod yX8_isMachine, Cond.selects RX8 yX8_isMachine yX8_isMachine, Cond.code yX8_isMachine cX8_isMachine 2 (some .boolean), Cond.fieldLink RX8 63 "AgainAgainModel" "machines" "I", Cond.methodLink RX8 53 yX8_in, Cond.static yX8_in, Cond.code yX8_in cX8_in 6 (some .boolean), Cond.methodLink RX8 113 yX8_plays, Cond.instanceMethod yX8_plays, Cond.selects RX8 yX8_plays yX8_plays, Cond.code yX8_plays cX8_plays 6 none, Cond.fieldLink RX8 41 "AgainAgainModel" "seenAt" "[I", Cond.fieldLink RX8 38 "AgainAgainModel" "row" "[I", Cond.methodLink RX8 94 yX8_payOf]
def wsX8_match_r2 : List Cond := [Cond.instanceMethod yX8_payOf, Cond.selects RX8 yX8_payOf yX8_payOf, Cond.code yX8_payOf cX8_payOf 4 (some .int), Cond.fieldLink RX8 7 "AgainAgainModel" "pays" "[I", Cond.methodLink RX8 83 yX8_mine, Cond.instanceMethod yX8_mine, Cond.selects RX8 yX8_mine yX8_mine, Cond.code yX8_mine cX8_mine 3 (some .int), Cond.fieldLink RX8 23 "AgainAgainModel" "acts" "[I", Cond.methodLink RX8 87 yX8_theirs, Cond.instanceMethod yX8_theirs, Cond.selects RX8 yX8_theirs yX8_theirs, Cond.code yX8_theirs cX8_theirs 3 (some .int), Cond.methodLink RX8 98 yX8_next, Cond.instanceMethod yX8_next, Cond.selects RX8 yX8_next yX8_next, Cond.code yX8_next cX8_next 4 (some .int), Cond.methodLink RX8 90 yX8_after, Cond.instanceMethod yX8_after, Cond.selects RX8 yX8_after yX8_after, Cond.code yX8_after cX8_after 6 (some .int), Cond.fieldLink RX8 26 "AgainAgainModel" "nexts" "[I", Cond.methodLink RX8 117 yX8_sumOf, Cond.instanceMethod yX8_sumOf]
def wsX8_match_r3 : List Cond := [Cond.selects RX8 yX8_sumOf yX8_sumOf, Cond.code yX8_sumOf cX8_sumOf 5 (some .int)]
def wsX8_match : List Cond := .code yX8_match cX8_match 4 (some .int) :: ((wsX8_match_r1 ++ (wsX8_match_r2 ++ wsX8_match_r3)) ++ wsX80)
def wsX8_sumUp : List Cond := .code yX8_sumUp cX8_sumUp 7 (some .int) :: ([.methodLink RX8 94 yX8_payOf, .instanceMethod yX8_payOf, .selects RX8 yX8_payOf yX8_payOf, .initialized RX8, .code yX8_payOf cX8_payOf 4 (some .int), .fieldLink RX8 7 "AgainAgainModel" "pays" "[I", .methodLink RX8 83 yX8_mine, .instanceMethod yX8_mine, .selects RX8 yX8_mine yX8_mine, .code yX8_mine cX8_mine 3 (some .int), .fieldLink RX8 23 "AgainAgainModel" "acts" "[I", .methodLink RX8 87 yX8_theirs, .instanceMethod yX8_theirs, .selects RX8 yX8_theirs yX8_theirs, .code yX8_theirs cX8_theirs 3 (some .int), .methodLink RX8 98 yX8_next, .instanceMethod yX8_next, .selects RX8 yX8_next yX8_next, .code yX8_next cX8_next 4 (some .int), .methodLink RX8 90 yX8_after, .instanceMethod yX8_after, .selects RX8 yX8_after yX8_after, .code yX8_after cX8_after 6 (some .int), .fieldLink RX8 26 "AgainAgainModel" "nexts" "[I"] ++ wsX80)
def wsX8_sum_r1 : List Cond := [Cond.constantLong RX8 110 (1000), Cond.constant RX8 112 (-1000000), Cond.methodLink RX8 107 yX8_areBoth, Cond.instanceMethod yX8_areBoth, Cond.selects RX8 yX8_areBoth yX8_areBoth, Cond.initialized RX8, Cond.code yX8_areBoth cX8_areBoth 3 (some .boolean), Cond.methodLink RX8 66 yX8_isMachine, Cond.instanceMethod yX8_isMachine, Cond.selects RX8 yX8_isMachine yX8_isMachine, Cond.code yX8_isMachine cX8_isMachine 2 (some .boolean), Cond.fieldLink RX8 63 "AgainAgainModel" "machines" "I", Cond.methodLink RX8 53 yX8_in, Cond.static yX8_in, Cond.code yX8_in cX8_in 6 (some .boolean), Cond.methodLink RX8 120 yX8_sumUp, Cond.instanceMethod yX8_sumUp, Cond.selects RX8 yX8_sumUp yX8_sumUp, Cond.code yX8_sumUp cX8_sumUp 7 (some .int), Cond.methodLink RX8 94 yX8_payOf, Cond.instanceMethod yX8_payOf, Cond.selects RX8 yX8_payOf yX8_payOf, Cond.code yX8_payOf cX8_payOf 4 (some .int), Cond.fieldLink RX8 7 "AgainAgainModel" "pays" "[I"]
def wsX8_sum_r2 : List Cond := [Cond.methodLink RX8 83 yX8_mine, Cond.instanceMethod yX8_mine, Cond.selects RX8 yX8_mine yX8_mine, Cond.code yX8_mine cX8_mine 3 (some .int), Cond.fieldLink RX8 23 "AgainAgainModel" "acts" "[I", Cond.methodLink RX8 87 yX8_theirs, Cond.instanceMethod yX8_theirs, Cond.selects RX8 yX8_theirs yX8_theirs, Cond.code yX8_theirs cX8_theirs 3 (some .int), Cond.methodLink RX8 98 yX8_next, Cond.instanceMethod yX8_next, Cond.selects RX8 yX8_next yX8_next, Cond.code yX8_next cX8_next 4 (some .int), Cond.methodLink RX8 90 yX8_after, Cond.instanceMethod yX8_after, Cond.selects RX8 yX8_after yX8_after, Cond.code yX8_after cX8_after 6 (some .int), Cond.fieldLink RX8 26 "AgainAgainModel" "nexts" "[I"]
def wsX8_sum : List Cond := .code yX8_sum cX8_sum 4 (some .int) :: ((wsX8_sum_r1 ++ wsX8_sum_r2) ++ wsX80)
def wsX8_lowest : List Cond := .code yX8_lowest cX8_lowest 11 none :: ([.fieldLink RX8 123 "AgainAgainModel" "over" "J", .fieldLink RX8 127 "AgainAgainModel" "under" "J"] ++ wsX80)
def wsX8_power : List Cond := .code yX8_power cX8_power 6 (some .long) :: ([])
def wsX8_worthOfRow : List Cond := .code yX8_worthOfRow cX8_worthOfRow 7 none :: ([.fieldLink RX8 101 "AgainAgainModel" "tail" "I", .fieldLink RX8 38 "AgainAgainModel" "row" "[I", .fieldLink RX8 13 "AgainAgainModel" "up" "I", .fieldLink RX8 17 "AgainAgainModel" "by" "I", .fieldLink RX8 104 "AgainAgainModel" "ring" "I", .methodLink RX8 130 yX8_power, .static yX8_power, .initialized RX8, .code yX8_power cX8_power 6 (some .long), .methodLink RX8 134 yX8_lowest, .instanceMethod yX8_lowest, .selects RX8 yX8_lowest yX8_lowest, .code yX8_lowest cX8_lowest 11 none, .fieldLink RX8 123 "AgainAgainModel" "over" "J", .fieldLink RX8 127 "AgainAgainModel" "under" "J"] ++ wsX80)
def wsX8_part : List Cond := .code yX8_part cX8_part 2 (some .long) :: ([.fieldLink RX8 123 "AgainAgainModel" "over" "J", .fieldLink RX8 127 "AgainAgainModel" "under" "J"] ++ wsX80)
def wsX8_mean_r1 : List Cond := [Cond.constantLong RX8 138 (-1000000000000000), Cond.fieldLink RX8 101 "AgainAgainModel" "tail" "I", Cond.fieldLink RX8 104 "AgainAgainModel" "ring" "I", Cond.methodLink RX8 107 yX8_areBoth, Cond.instanceMethod yX8_areBoth, Cond.selects RX8 yX8_areBoth yX8_areBoth, Cond.initialized RX8, Cond.code yX8_areBoth cX8_areBoth 3 (some .boolean), Cond.methodLink RX8 66 yX8_isMachine, Cond.instanceMethod yX8_isMachine, Cond.selects RX8 yX8_isMachine yX8_isMachine, Cond.code yX8_isMachine cX8_isMachine 2 (some .boolean), Cond.fieldLink RX8 63 "AgainAgainModel" "machines" "I", Cond.methodLink RX8 53 yX8_in, Cond.static yX8_in, Cond.code yX8_in cX8_in 6 (some .boolean), Cond.methodLink RX8 113 yX8_plays, Cond.instanceMethod yX8_plays, Cond.selects RX8 yX8_plays yX8_plays, Cond.code yX8_plays cX8_plays 6 none, Cond.fieldLink RX8 41 "AgainAgainModel" "seenAt" "[I", Cond.fieldLink RX8 38 "AgainAgainModel" "row" "[I", Cond.methodLink RX8 94 yX8_payOf, Cond.instanceMethod yX8_payOf]
def wsX8_mean_r2 : List Cond := [Cond.selects RX8 yX8_payOf yX8_payOf, Cond.code yX8_payOf cX8_payOf 4 (some .int), Cond.fieldLink RX8 7 "AgainAgainModel" "pays" "[I", Cond.methodLink RX8 83 yX8_mine, Cond.instanceMethod yX8_mine, Cond.selects RX8 yX8_mine yX8_mine, Cond.code yX8_mine cX8_mine 3 (some .int), Cond.fieldLink RX8 23 "AgainAgainModel" "acts" "[I", Cond.methodLink RX8 87 yX8_theirs, Cond.instanceMethod yX8_theirs, Cond.selects RX8 yX8_theirs yX8_theirs, Cond.code yX8_theirs cX8_theirs 3 (some .int), Cond.methodLink RX8 98 yX8_next, Cond.instanceMethod yX8_next, Cond.selects RX8 yX8_next yX8_next, Cond.code yX8_next cX8_next 4 (some .int), Cond.methodLink RX8 90 yX8_after, Cond.instanceMethod yX8_after, Cond.selects RX8 yX8_after yX8_after, Cond.code yX8_after cX8_after 6 (some .int), Cond.fieldLink RX8 26 "AgainAgainModel" "nexts" "[I", Cond.methodLink RX8 117 yX8_sumOf, Cond.instanceMethod yX8_sumOf, Cond.selects RX8 yX8_sumOf yX8_sumOf]
def wsX8_mean_r3 : List Cond := [Cond.code yX8_sumOf cX8_sumOf 5 (some .int), Cond.methodLink RX8 134 yX8_lowest, Cond.instanceMethod yX8_lowest, Cond.selects RX8 yX8_lowest yX8_lowest, Cond.code yX8_lowest cX8_lowest 11 none, Cond.fieldLink RX8 123 "AgainAgainModel" "over" "J", Cond.fieldLink RX8 127 "AgainAgainModel" "under" "J", Cond.methodLink RX8 140 yX8_part, Cond.instanceMethod yX8_part, Cond.selects RX8 yX8_part yX8_part, Cond.code yX8_part cX8_part 2 (some .long)]
def wsX8_mean : List Cond := .code yX8_mean cX8_mean 4 (some .long) :: ((wsX8_mean_r1 ++ (wsX8_mean_r2 ++ wsX8_mean_r3)) ++ wsX80)
def wsX8_findWorth_r1 : List Cond := [Cond.methodLink RX8 113 yX8_plays, Cond.instanceMethod yX8_plays, Cond.selects RX8 yX8_plays yX8_plays, Cond.initialized RX8, Cond.code yX8_plays cX8_plays 6 none, Cond.fieldLink RX8 41 "AgainAgainModel" "seenAt" "[I", Cond.fieldLink RX8 38 "AgainAgainModel" "row" "[I", Cond.fieldLink RX8 101 "AgainAgainModel" "tail" "I", Cond.fieldLink RX8 104 "AgainAgainModel" "ring" "I", Cond.methodLink RX8 94 yX8_payOf, Cond.instanceMethod yX8_payOf, Cond.selects RX8 yX8_payOf yX8_payOf, Cond.code yX8_payOf cX8_payOf 4 (some .int), Cond.fieldLink RX8 7 "AgainAgainModel" "pays" "[I", Cond.methodLink RX8 83 yX8_mine, Cond.instanceMethod yX8_mine, Cond.selects RX8 yX8_mine yX8_mine, Cond.code yX8_mine cX8_mine 3 (some .int), Cond.fieldLink RX8 23 "AgainAgainModel" "acts" "[I", Cond.methodLink RX8 87 yX8_theirs, Cond.instanceMethod yX8_theirs, Cond.selects RX8 yX8_theirs yX8_theirs, Cond.code yX8_theirs cX8_theirs 3 (some .int), Cond.methodLink RX8 98 yX8_next]
def wsX8_findWorth_r2 : List Cond := [Cond.instanceMethod yX8_next, Cond.selects RX8 yX8_next yX8_next, Cond.code yX8_next cX8_next 4 (some .int), Cond.methodLink RX8 90 yX8_after, Cond.instanceMethod yX8_after, Cond.selects RX8 yX8_after yX8_after, Cond.code yX8_after cX8_after 6 (some .int), Cond.fieldLink RX8 26 "AgainAgainModel" "nexts" "[I", Cond.methodLink RX8 144 yX8_worthOfRow, Cond.instanceMethod yX8_worthOfRow, Cond.selects RX8 yX8_worthOfRow yX8_worthOfRow, Cond.code yX8_worthOfRow cX8_worthOfRow 7 none, Cond.fieldLink RX8 13 "AgainAgainModel" "up" "I", Cond.fieldLink RX8 17 "AgainAgainModel" "by" "I", Cond.methodLink RX8 130 yX8_power, Cond.static yX8_power, Cond.code yX8_power cX8_power 6 (some .long), Cond.methodLink RX8 134 yX8_lowest, Cond.instanceMethod yX8_lowest, Cond.selects RX8 yX8_lowest yX8_lowest, Cond.code yX8_lowest cX8_lowest 11 none, Cond.fieldLink RX8 123 "AgainAgainModel" "over" "J", Cond.fieldLink RX8 127 "AgainAgainModel" "under" "J"]
def wsX8_findWorth : List Cond := .code yX8_findWorth cX8_findWorth 4 none :: ((wsX8_findWorth_r1 ++ wsX8_findWorth_r2) ++ wsX80)
def wsX8_worth_r1 : List Cond := [Cond.constantLong RX8 138 (-1000000000000000), Cond.methodLink RX8 107 yX8_areBoth, Cond.instanceMethod yX8_areBoth, Cond.selects RX8 yX8_areBoth yX8_areBoth, Cond.initialized RX8, Cond.code yX8_areBoth cX8_areBoth 3 (some .boolean), Cond.methodLink RX8 66 yX8_isMachine, Cond.instanceMethod yX8_isMachine, Cond.selects RX8 yX8_isMachine yX8_isMachine, Cond.code yX8_isMachine cX8_isMachine 2 (some .boolean), Cond.fieldLink RX8 63 "AgainAgainModel" "machines" "I", Cond.methodLink RX8 53 yX8_in, Cond.static yX8_in, Cond.code yX8_in cX8_in 6 (some .boolean), Cond.methodLink RX8 147 yX8_findWorth, Cond.instanceMethod yX8_findWorth, Cond.selects RX8 yX8_findWorth yX8_findWorth, Cond.code yX8_findWorth cX8_findWorth 4 none, Cond.methodLink RX8 113 yX8_plays, Cond.instanceMethod yX8_plays, Cond.selects RX8 yX8_plays yX8_plays, Cond.code yX8_plays cX8_plays 6 none, Cond.fieldLink RX8 41 "AgainAgainModel" "seenAt" "[I", Cond.fieldLink RX8 38 "AgainAgainModel" "row" "[I"]
def wsX8_worth_r2 : List Cond := [Cond.fieldLink RX8 101 "AgainAgainModel" "tail" "I", Cond.fieldLink RX8 104 "AgainAgainModel" "ring" "I", Cond.methodLink RX8 94 yX8_payOf, Cond.instanceMethod yX8_payOf, Cond.selects RX8 yX8_payOf yX8_payOf, Cond.code yX8_payOf cX8_payOf 4 (some .int), Cond.fieldLink RX8 7 "AgainAgainModel" "pays" "[I", Cond.methodLink RX8 83 yX8_mine, Cond.instanceMethod yX8_mine, Cond.selects RX8 yX8_mine yX8_mine, Cond.code yX8_mine cX8_mine 3 (some .int), Cond.fieldLink RX8 23 "AgainAgainModel" "acts" "[I", Cond.methodLink RX8 87 yX8_theirs, Cond.instanceMethod yX8_theirs, Cond.selects RX8 yX8_theirs yX8_theirs, Cond.code yX8_theirs cX8_theirs 3 (some .int), Cond.methodLink RX8 98 yX8_next, Cond.instanceMethod yX8_next, Cond.selects RX8 yX8_next yX8_next, Cond.code yX8_next cX8_next 4 (some .int), Cond.methodLink RX8 90 yX8_after, Cond.instanceMethod yX8_after, Cond.selects RX8 yX8_after yX8_after, Cond.code yX8_after cX8_after 6 (some .int)]
def wsX8_worth_r3 : List Cond := [Cond.fieldLink RX8 26 "AgainAgainModel" "nexts" "[I", Cond.methodLink RX8 144 yX8_worthOfRow, Cond.instanceMethod yX8_worthOfRow, Cond.selects RX8 yX8_worthOfRow yX8_worthOfRow, Cond.code yX8_worthOfRow cX8_worthOfRow 7 none, Cond.fieldLink RX8 13 "AgainAgainModel" "up" "I", Cond.fieldLink RX8 17 "AgainAgainModel" "by" "I", Cond.methodLink RX8 130 yX8_power, Cond.static yX8_power, Cond.code yX8_power cX8_power 6 (some .long), Cond.methodLink RX8 134 yX8_lowest, Cond.instanceMethod yX8_lowest, Cond.selects RX8 yX8_lowest yX8_lowest, Cond.code yX8_lowest cX8_lowest 11 none, Cond.fieldLink RX8 123 "AgainAgainModel" "over" "J", Cond.fieldLink RX8 127 "AgainAgainModel" "under" "J", Cond.methodLink RX8 140 yX8_part, Cond.instanceMethod yX8_part, Cond.selects RX8 yX8_part yX8_part, Cond.code yX8_part cX8_part 2 (some .long)]
def wsX8_worth : List Cond := .code yX8_worth cX8_worth 4 (some .long) :: ((wsX8_worth_r1 ++ (wsX8_worth_r2 ++ wsX8_worth_r3)) ++ wsX80)
def wsX8_slip_r1 : List Cond := [Cond.constantLong RX8 150 (100), Cond.methodLink RX8 107 yX8_areBoth, Cond.instanceMethod yX8_areBoth, Cond.selects RX8 yX8_areBoth yX8_areBoth, Cond.initialized RX8, Cond.code yX8_areBoth cX8_areBoth 3 (some .boolean), Cond.methodLink RX8 66 yX8_isMachine, Cond.instanceMethod yX8_isMachine, Cond.selects RX8 yX8_isMachine yX8_isMachine, Cond.code yX8_isMachine cX8_isMachine 2 (some .boolean), Cond.fieldLink RX8 63 "AgainAgainModel" "machines" "I", Cond.methodLink RX8 53 yX8_in, Cond.static yX8_in, Cond.code yX8_in cX8_in 6 (some .boolean), Cond.methodLink RX8 98 yX8_next, Cond.instanceMethod yX8_next, Cond.selects RX8 yX8_next yX8_next, Cond.code yX8_next cX8_next 4 (some .int), Cond.methodLink RX8 83 yX8_mine, Cond.instanceMethod yX8_mine, Cond.selects RX8 yX8_mine yX8_mine, Cond.code yX8_mine cX8_mine 3 (some .int), Cond.fieldLink RX8 23 "AgainAgainModel" "acts" "[I", Cond.methodLink RX8 87 yX8_theirs]
def wsX8_slip_r2 : List Cond := [Cond.instanceMethod yX8_theirs, Cond.selects RX8 yX8_theirs yX8_theirs, Cond.code yX8_theirs cX8_theirs 3 (some .int), Cond.methodLink RX8 90 yX8_after, Cond.instanceMethod yX8_after, Cond.selects RX8 yX8_after yX8_after, Cond.code yX8_after cX8_after 6 (some .int), Cond.fieldLink RX8 26 "AgainAgainModel" "nexts" "[I"]
def wsX8_slip : List Cond := .code yX8_slip cX8_slip 7 (some .int) :: ((wsX8_slip_r1 ++ wsX8_slip_r2) ++ wsX80)
def wsX8_findUnlike : List Cond := .code yX8_findUnlike cX8_findUnlike 7 none :: ([.fieldLink RX8 20 "AgainAgainModel" "many" "[I", .fieldLink RX8 44 "AgainAgainModel" "unlike" "[Z", .fieldLink RX8 23 "AgainAgainModel" "acts" "[I", .fieldLink RX8 26 "AgainAgainModel" "nexts" "[I"] ++ wsX80)
def wsX8_areLike : List Cond := .code yX8_areLike cX8_areLike 3 (some .boolean) :: ([.fieldLink RX8 44 "AgainAgainModel" "unlike" "[Z", .methodLink RX8 152 yX8_findUnlike, .instanceMethod yX8_findUnlike, .selects RX8 yX8_findUnlike yX8_findUnlike, .initialized RX8, .code yX8_findUnlike cX8_findUnlike 7 none, .fieldLink RX8 20 "AgainAgainModel" "many" "[I", .fieldLink RX8 23 "AgainAgainModel" "acts" "[I", .fieldLink RX8 26 "AgainAgainModel" "nexts" "[I"] ++ wsX80)
def wsX8_like_r1 : List Cond := [Cond.methodLink RX8 107 yX8_areBoth, Cond.instanceMethod yX8_areBoth, Cond.selects RX8 yX8_areBoth yX8_areBoth, Cond.initialized RX8, Cond.code yX8_areBoth cX8_areBoth 3 (some .boolean), Cond.methodLink RX8 66 yX8_isMachine, Cond.instanceMethod yX8_isMachine, Cond.selects RX8 yX8_isMachine yX8_isMachine, Cond.code yX8_isMachine cX8_isMachine 2 (some .boolean), Cond.fieldLink RX8 63 "AgainAgainModel" "machines" "I", Cond.methodLink RX8 53 yX8_in, Cond.static yX8_in, Cond.code yX8_in cX8_in 6 (some .boolean), Cond.methodLink RX8 156 yX8_areLike, Cond.instanceMethod yX8_areLike, Cond.selects RX8 yX8_areLike yX8_areLike, Cond.code yX8_areLike cX8_areLike 3 (some .boolean), Cond.fieldLink RX8 44 "AgainAgainModel" "unlike" "[Z", Cond.methodLink RX8 152 yX8_findUnlike, Cond.instanceMethod yX8_findUnlike, Cond.selects RX8 yX8_findUnlike yX8_findUnlike, Cond.code yX8_findUnlike cX8_findUnlike 7 none, Cond.fieldLink RX8 20 "AgainAgainModel" "many" "[I", Cond.fieldLink RX8 23 "AgainAgainModel" "acts" "[I"]
def wsX8_like_r2 : List Cond := [Cond.fieldLink RX8 26 "AgainAgainModel" "nexts" "[I"]
def wsX8_like : List Cond := .code yX8_like cX8_like 3 (some .int) :: ((wsX8_like_r1 ++ wsX8_like_r2) ++ wsX80)
def wsX8_smallest : List Cond := .code yX8_smallest cX8_smallest 7 (some .int) :: ([.fieldLink RX8 20 "AgainAgainModel" "many" "[I", .fieldLink RX8 26 "AgainAgainModel" "nexts" "[I", .fieldLink RX8 44 "AgainAgainModel" "unlike" "[Z", .methodLink RX8 66 yX8_isMachine, .instanceMethod yX8_isMachine, .selects RX8 yX8_isMachine yX8_isMachine, .initialized RX8, .code yX8_isMachine cX8_isMachine 2 (some .boolean), .fieldLink RX8 63 "AgainAgainModel" "machines" "I", .methodLink RX8 53 yX8_in, .static yX8_in, .code yX8_in cX8_in 6 (some .boolean), .methodLink RX8 152 yX8_findUnlike, .instanceMethod yX8_findUnlike, .selects RX8 yX8_findUnlike yX8_findUnlike, .code yX8_findUnlike cX8_findUnlike 7 none, .fieldLink RX8 23 "AgainAgainModel" "acts" "[I"] ++ wsX80)
def wsX8_plans : List Cond := .code yX8_plans cX8_plans 2 (some .int) :: ([.constantLong RX8 74 (3), .fieldLink RX8 20 "AgainAgainModel" "many" "[I", .methodLink RX8 130 yX8_power, .static yX8_power, .initialized RX8, .code yX8_power cX8_power 6 (some .long)] ++ wsX80)
def wsX8_findPlanWorth : List Cond := .code yX8_findPlanWorth cX8_findPlanWorth 7 none :: ([.fieldLink RX8 41 "AgainAgainModel" "seenAt" "[I", .constantLong RX8 74 (3), .fieldLink RX8 38 "AgainAgainModel" "row" "[I", .fieldLink RX8 7 "AgainAgainModel" "pays" "[I", .fieldLink RX8 23 "AgainAgainModel" "acts" "[I", .fieldLink RX8 26 "AgainAgainModel" "nexts" "[I", .fieldLink RX8 101 "AgainAgainModel" "tail" "I", .fieldLink RX8 104 "AgainAgainModel" "ring" "I", .methodLink RX8 130 yX8_power, .static yX8_power, .initialized RX8, .code yX8_power cX8_power 6 (some .long), .methodLink RX8 144 yX8_worthOfRow, .instanceMethod yX8_worthOfRow, .selects RX8 yX8_worthOfRow yX8_worthOfRow, .code yX8_worthOfRow cX8_worthOfRow 7 none, .fieldLink RX8 13 "AgainAgainModel" "up" "I", .fieldLink RX8 17 "AgainAgainModel" "by" "I", .methodLink RX8 134 yX8_lowest, .instanceMethod yX8_lowest, .selects RX8 yX8_lowest yX8_lowest, .code yX8_lowest cX8_lowest 11 none, .fieldLink RX8 123 "AgainAgainModel" "over" "J", .fieldLink RX8 127 "AgainAgainModel" "under" "J"] ++ wsX80)
def wsX8_findBest_r1 : List Cond := [Cond.fieldLink RX8 159 "AgainAgainModel" "bestPlan" "I", Cond.fieldLink RX8 123 "AgainAgainModel" "over" "J", Cond.fieldLink RX8 168 "AgainAgainModel" "bestUnder" "J", Cond.fieldLink RX8 171 "AgainAgainModel" "bestOver" "J", Cond.fieldLink RX8 127 "AgainAgainModel" "under" "J", Cond.methodLink RX8 162 yX8_plans, Cond.instanceMethod yX8_plans, Cond.selects RX8 yX8_plans yX8_plans, Cond.initialized RX8, Cond.code yX8_plans cX8_plans 2 (some .int), Cond.constantLong RX8 74 (3), Cond.fieldLink RX8 20 "AgainAgainModel" "many" "[I", Cond.methodLink RX8 130 yX8_power, Cond.static yX8_power, Cond.code yX8_power cX8_power 6 (some .long), Cond.methodLink RX8 165 yX8_findPlanWorth, Cond.instanceMethod yX8_findPlanWorth, Cond.selects RX8 yX8_findPlanWorth yX8_findPlanWorth, Cond.code yX8_findPlanWorth cX8_findPlanWorth 7 none, Cond.fieldLink RX8 41 "AgainAgainModel" "seenAt" "[I", Cond.fieldLink RX8 38 "AgainAgainModel" "row" "[I", Cond.fieldLink RX8 7 "AgainAgainModel" "pays" "[I", Cond.fieldLink RX8 23 "AgainAgainModel" "acts" "[I", Cond.fieldLink RX8 26 "AgainAgainModel" "nexts" "[I"]
def wsX8_findBest_r2 : List Cond := [Cond.fieldLink RX8 101 "AgainAgainModel" "tail" "I", Cond.fieldLink RX8 104 "AgainAgainModel" "ring" "I", Cond.methodLink RX8 144 yX8_worthOfRow, Cond.instanceMethod yX8_worthOfRow, Cond.selects RX8 yX8_worthOfRow yX8_worthOfRow, Cond.code yX8_worthOfRow cX8_worthOfRow 7 none, Cond.fieldLink RX8 13 "AgainAgainModel" "up" "I", Cond.fieldLink RX8 17 "AgainAgainModel" "by" "I", Cond.methodLink RX8 134 yX8_lowest, Cond.instanceMethod yX8_lowest, Cond.selects RX8 yX8_lowest yX8_lowest, Cond.code yX8_lowest cX8_lowest 11 none]
def wsX8_findBest : List Cond := .code yX8_findBest cX8_findBest 4 none :: ((wsX8_findBest_r1 ++ wsX8_findBest_r2) ++ wsX80)
def wsX8_best_r1 : List Cond := [Cond.fieldLink RX8 159 "AgainAgainModel" "bestPlan" "I", Cond.methodLink RX8 70 yX8_isState, Cond.instanceMethod yX8_isState, Cond.selects RX8 yX8_isState yX8_isState, Cond.initialized RX8, Cond.code yX8_isState cX8_isState 3 (some .boolean), Cond.fieldLink RX8 20 "AgainAgainModel" "many" "[I", Cond.methodLink RX8 66 yX8_isMachine, Cond.instanceMethod yX8_isMachine, Cond.selects RX8 yX8_isMachine yX8_isMachine, Cond.code yX8_isMachine cX8_isMachine 2 (some .boolean), Cond.fieldLink RX8 63 "AgainAgainModel" "machines" "I", Cond.methodLink RX8 53 yX8_in, Cond.static yX8_in, Cond.code yX8_in cX8_in 6 (some .boolean), Cond.methodLink RX8 174 yX8_findBest, Cond.instanceMethod yX8_findBest, Cond.selects RX8 yX8_findBest yX8_findBest, Cond.code yX8_findBest cX8_findBest 4 none, Cond.fieldLink RX8 123 "AgainAgainModel" "over" "J", Cond.fieldLink RX8 168 "AgainAgainModel" "bestUnder" "J", Cond.fieldLink RX8 171 "AgainAgainModel" "bestOver" "J", Cond.fieldLink RX8 127 "AgainAgainModel" "under" "J", Cond.methodLink RX8 162 yX8_plans]
def wsX8_best_r2 : List Cond := [Cond.instanceMethod yX8_plans, Cond.selects RX8 yX8_plans yX8_plans, Cond.code yX8_plans cX8_plans 2 (some .int), Cond.constantLong RX8 74 (3), Cond.methodLink RX8 130 yX8_power, Cond.static yX8_power, Cond.code yX8_power cX8_power 6 (some .long), Cond.methodLink RX8 165 yX8_findPlanWorth, Cond.instanceMethod yX8_findPlanWorth, Cond.selects RX8 yX8_findPlanWorth yX8_findPlanWorth, Cond.code yX8_findPlanWorth cX8_findPlanWorth 7 none, Cond.fieldLink RX8 41 "AgainAgainModel" "seenAt" "[I", Cond.fieldLink RX8 38 "AgainAgainModel" "row" "[I", Cond.fieldLink RX8 7 "AgainAgainModel" "pays" "[I", Cond.fieldLink RX8 23 "AgainAgainModel" "acts" "[I", Cond.fieldLink RX8 26 "AgainAgainModel" "nexts" "[I", Cond.fieldLink RX8 101 "AgainAgainModel" "tail" "I", Cond.fieldLink RX8 104 "AgainAgainModel" "ring" "I", Cond.methodLink RX8 144 yX8_worthOfRow, Cond.instanceMethod yX8_worthOfRow, Cond.selects RX8 yX8_worthOfRow yX8_worthOfRow, Cond.code yX8_worthOfRow cX8_worthOfRow 7 none, Cond.fieldLink RX8 13 "AgainAgainModel" "up" "I", Cond.fieldLink RX8 17 "AgainAgainModel" "by" "I"]
def wsX8_best_r3 : List Cond := [Cond.methodLink RX8 134 yX8_lowest, Cond.instanceMethod yX8_lowest, Cond.selects RX8 yX8_lowest yX8_lowest, Cond.code yX8_lowest cX8_lowest 11 none]
def wsX8_best : List Cond := .code yX8_best cX8_best 3 (some .int) :: ((wsX8_best_r1 ++ (wsX8_best_r2 ++ wsX8_best_r3)) ++ wsX80)
def wsX8_bestWorth_r1 : List Cond := [Cond.constantLong RX8 138 (-1000000000000000), Cond.fieldLink RX8 171 "AgainAgainModel" "bestOver" "J", Cond.fieldLink RX8 168 "AgainAgainModel" "bestUnder" "J", Cond.methodLink RX8 70 yX8_isState, Cond.instanceMethod yX8_isState, Cond.selects RX8 yX8_isState yX8_isState, Cond.initialized RX8, Cond.code yX8_isState cX8_isState 3 (some .boolean), Cond.fieldLink RX8 20 "AgainAgainModel" "many" "[I", Cond.methodLink RX8 66 yX8_isMachine, Cond.instanceMethod yX8_isMachine, Cond.selects RX8 yX8_isMachine yX8_isMachine, Cond.code yX8_isMachine cX8_isMachine 2 (some .boolean), Cond.fieldLink RX8 63 "AgainAgainModel" "machines" "I", Cond.methodLink RX8 53 yX8_in, Cond.static yX8_in, Cond.code yX8_in cX8_in 6 (some .boolean), Cond.methodLink RX8 174 yX8_findBest, Cond.instanceMethod yX8_findBest, Cond.selects RX8 yX8_findBest yX8_findBest, Cond.code yX8_findBest cX8_findBest 4 none, Cond.fieldLink RX8 159 "AgainAgainModel" "bestPlan" "I", Cond.fieldLink RX8 123 "AgainAgainModel" "over" "J", Cond.fieldLink RX8 127 "AgainAgainModel" "under" "J"]
def wsX8_bestWorth_r2 : List Cond := [Cond.methodLink RX8 162 yX8_plans, Cond.instanceMethod yX8_plans, Cond.selects RX8 yX8_plans yX8_plans, Cond.code yX8_plans cX8_plans 2 (some .int), Cond.constantLong RX8 74 (3), Cond.methodLink RX8 130 yX8_power, Cond.static yX8_power, Cond.code yX8_power cX8_power 6 (some .long), Cond.methodLink RX8 165 yX8_findPlanWorth, Cond.instanceMethod yX8_findPlanWorth, Cond.selects RX8 yX8_findPlanWorth yX8_findPlanWorth, Cond.code yX8_findPlanWorth cX8_findPlanWorth 7 none, Cond.fieldLink RX8 41 "AgainAgainModel" "seenAt" "[I", Cond.fieldLink RX8 38 "AgainAgainModel" "row" "[I", Cond.fieldLink RX8 7 "AgainAgainModel" "pays" "[I", Cond.fieldLink RX8 23 "AgainAgainModel" "acts" "[I", Cond.fieldLink RX8 26 "AgainAgainModel" "nexts" "[I", Cond.fieldLink RX8 101 "AgainAgainModel" "tail" "I", Cond.fieldLink RX8 104 "AgainAgainModel" "ring" "I", Cond.methodLink RX8 144 yX8_worthOfRow, Cond.instanceMethod yX8_worthOfRow, Cond.selects RX8 yX8_worthOfRow yX8_worthOfRow, Cond.code yX8_worthOfRow cX8_worthOfRow 7 none, Cond.fieldLink RX8 13 "AgainAgainModel" "up" "I"]
def wsX8_bestWorth_r3 : List Cond := [Cond.fieldLink RX8 17 "AgainAgainModel" "by" "I", Cond.methodLink RX8 134 yX8_lowest, Cond.instanceMethod yX8_lowest, Cond.selects RX8 yX8_lowest yX8_lowest, Cond.code yX8_lowest cX8_lowest 11 none]
def wsX8_bestWorth : List Cond := .code yX8_bestWorth cX8_bestWorth 4 (some .long) :: ((wsX8_bestWorth_r1 ++ (wsX8_bestWorth_r2 ++ wsX8_bestWorth_r3)) ++ wsX80)
def wsX8_planWorth_r1 : List Cond := [Cond.constantLong RX8 138 (-1000000000000000), Cond.methodLink RX8 70 yX8_isState, Cond.instanceMethod yX8_isState, Cond.selects RX8 yX8_isState yX8_isState, Cond.initialized RX8, Cond.code yX8_isState cX8_isState 3 (some .boolean), Cond.fieldLink RX8 20 "AgainAgainModel" "many" "[I", Cond.methodLink RX8 66 yX8_isMachine, Cond.instanceMethod yX8_isMachine, Cond.selects RX8 yX8_isMachine yX8_isMachine, Cond.code yX8_isMachine cX8_isMachine 2 (some .boolean), Cond.fieldLink RX8 63 "AgainAgainModel" "machines" "I", Cond.methodLink RX8 53 yX8_in, Cond.static yX8_in, Cond.code yX8_in cX8_in 6 (some .boolean), Cond.methodLink RX8 162 yX8_plans, Cond.instanceMethod yX8_plans, Cond.selects RX8 yX8_plans yX8_plans, Cond.code yX8_plans cX8_plans 2 (some .int), Cond.constantLong RX8 74 (3), Cond.methodLink RX8 130 yX8_power, Cond.static yX8_power, Cond.code yX8_power cX8_power 6 (some .long), Cond.methodLink RX8 165 yX8_findPlanWorth]
def wsX8_planWorth_r2 : List Cond := [Cond.instanceMethod yX8_findPlanWorth, Cond.selects RX8 yX8_findPlanWorth yX8_findPlanWorth, Cond.code yX8_findPlanWorth cX8_findPlanWorth 7 none, Cond.fieldLink RX8 41 "AgainAgainModel" "seenAt" "[I", Cond.fieldLink RX8 38 "AgainAgainModel" "row" "[I", Cond.fieldLink RX8 7 "AgainAgainModel" "pays" "[I", Cond.fieldLink RX8 23 "AgainAgainModel" "acts" "[I", Cond.fieldLink RX8 26 "AgainAgainModel" "nexts" "[I", Cond.fieldLink RX8 101 "AgainAgainModel" "tail" "I", Cond.fieldLink RX8 104 "AgainAgainModel" "ring" "I", Cond.methodLink RX8 144 yX8_worthOfRow, Cond.instanceMethod yX8_worthOfRow, Cond.selects RX8 yX8_worthOfRow yX8_worthOfRow, Cond.code yX8_worthOfRow cX8_worthOfRow 7 none, Cond.fieldLink RX8 13 "AgainAgainModel" "up" "I", Cond.fieldLink RX8 17 "AgainAgainModel" "by" "I", Cond.methodLink RX8 134 yX8_lowest, Cond.instanceMethod yX8_lowest, Cond.selects RX8 yX8_lowest yX8_lowest, Cond.code yX8_lowest cX8_lowest 11 none, Cond.fieldLink RX8 123 "AgainAgainModel" "over" "J", Cond.fieldLink RX8 127 "AgainAgainModel" "under" "J", Cond.methodLink RX8 140 yX8_part, Cond.instanceMethod yX8_part]
def wsX8_planWorth_r3 : List Cond := [Cond.selects RX8 yX8_part yX8_part, Cond.code yX8_part cX8_part 2 (some .long)]
def wsX8_planWorth : List Cond := .code yX8_planWorth cX8_planWorth 5 (some .long) :: ((wsX8_planWorth_r1 ++ (wsX8_planWorth_r2 ++ wsX8_planWorth_r3)) ++ wsX80)
def wsX8_isBest_r1 : List Cond := [Cond.fieldLink RX8 123 "AgainAgainModel" "over" "J", Cond.fieldLink RX8 171 "AgainAgainModel" "bestOver" "J", Cond.fieldLink RX8 127 "AgainAgainModel" "under" "J", Cond.fieldLink RX8 168 "AgainAgainModel" "bestUnder" "J", Cond.methodLink RX8 174 yX8_findBest, Cond.instanceMethod yX8_findBest, Cond.selects RX8 yX8_findBest yX8_findBest, Cond.initialized RX8, Cond.code yX8_findBest cX8_findBest 4 none, Cond.fieldLink RX8 159 "AgainAgainModel" "bestPlan" "I", Cond.methodLink RX8 162 yX8_plans, Cond.instanceMethod yX8_plans, Cond.selects RX8 yX8_plans yX8_plans, Cond.code yX8_plans cX8_plans 2 (some .int), Cond.constantLong RX8 74 (3), Cond.fieldLink RX8 20 "AgainAgainModel" "many" "[I", Cond.methodLink RX8 130 yX8_power, Cond.static yX8_power, Cond.code yX8_power cX8_power 6 (some .long), Cond.methodLink RX8 165 yX8_findPlanWorth, Cond.instanceMethod yX8_findPlanWorth, Cond.selects RX8 yX8_findPlanWorth yX8_findPlanWorth, Cond.code yX8_findPlanWorth cX8_findPlanWorth 7 none, Cond.fieldLink RX8 41 "AgainAgainModel" "seenAt" "[I"]
def wsX8_isBest_r2 : List Cond := [Cond.fieldLink RX8 38 "AgainAgainModel" "row" "[I", Cond.fieldLink RX8 7 "AgainAgainModel" "pays" "[I", Cond.fieldLink RX8 23 "AgainAgainModel" "acts" "[I", Cond.fieldLink RX8 26 "AgainAgainModel" "nexts" "[I", Cond.fieldLink RX8 101 "AgainAgainModel" "tail" "I", Cond.fieldLink RX8 104 "AgainAgainModel" "ring" "I", Cond.methodLink RX8 144 yX8_worthOfRow, Cond.instanceMethod yX8_worthOfRow, Cond.selects RX8 yX8_worthOfRow yX8_worthOfRow, Cond.code yX8_worthOfRow cX8_worthOfRow 7 none, Cond.fieldLink RX8 13 "AgainAgainModel" "up" "I", Cond.fieldLink RX8 17 "AgainAgainModel" "by" "I", Cond.methodLink RX8 134 yX8_lowest, Cond.instanceMethod yX8_lowest, Cond.selects RX8 yX8_lowest yX8_lowest, Cond.code yX8_lowest cX8_lowest 11 none, Cond.methodLink RX8 147 yX8_findWorth, Cond.instanceMethod yX8_findWorth, Cond.selects RX8 yX8_findWorth yX8_findWorth, Cond.code yX8_findWorth cX8_findWorth 4 none, Cond.methodLink RX8 113 yX8_plays, Cond.instanceMethod yX8_plays, Cond.selects RX8 yX8_plays yX8_plays, Cond.code yX8_plays cX8_plays 6 none]
def wsX8_isBest_r3 : List Cond := [Cond.methodLink RX8 94 yX8_payOf, Cond.instanceMethod yX8_payOf, Cond.selects RX8 yX8_payOf yX8_payOf, Cond.code yX8_payOf cX8_payOf 4 (some .int), Cond.methodLink RX8 83 yX8_mine, Cond.instanceMethod yX8_mine, Cond.selects RX8 yX8_mine yX8_mine, Cond.code yX8_mine cX8_mine 3 (some .int), Cond.methodLink RX8 87 yX8_theirs, Cond.instanceMethod yX8_theirs, Cond.selects RX8 yX8_theirs yX8_theirs, Cond.code yX8_theirs cX8_theirs 3 (some .int), Cond.methodLink RX8 98 yX8_next, Cond.instanceMethod yX8_next, Cond.selects RX8 yX8_next yX8_next, Cond.code yX8_next cX8_next 4 (some .int), Cond.methodLink RX8 90 yX8_after, Cond.instanceMethod yX8_after, Cond.selects RX8 yX8_after yX8_after, Cond.code yX8_after cX8_after 6 (some .int)]
def wsX8_isBest : List Cond := .code yX8_isBest cX8_isBest 4 (some .boolean) :: ((wsX8_isBest_r1 ++ (wsX8_isBest_r2 ++ wsX8_isBest_r3)) ++ wsX80)
def wsX8_turned : List Cond := .code yX8_turned cX8_turned 1 (some .int) :: ([])
def wsX8_rests_r1 : List Cond := [Cond.methodLink RX8 177 yX8_isBest, Cond.instanceMethod yX8_isBest, Cond.selects RX8 yX8_isBest yX8_isBest, Cond.initialized RX8, Cond.code yX8_isBest cX8_isBest 4 (some .boolean), Cond.fieldLink RX8 123 "AgainAgainModel" "over" "J", Cond.fieldLink RX8 171 "AgainAgainModel" "bestOver" "J", Cond.fieldLink RX8 127 "AgainAgainModel" "under" "J", Cond.fieldLink RX8 168 "AgainAgainModel" "bestUnder" "J", Cond.methodLink RX8 174 yX8_findBest, Cond.instanceMethod yX8_findBest, Cond.selects RX8 yX8_findBest yX8_findBest, Cond.code yX8_findBest cX8_findBest 4 none, Cond.fieldLink RX8 159 "AgainAgainModel" "bestPlan" "I", Cond.methodLink RX8 162 yX8_plans, Cond.instanceMethod yX8_plans, Cond.selects RX8 yX8_plans yX8_plans, Cond.code yX8_plans cX8_plans 2 (some .int), Cond.constantLong RX8 74 (3), Cond.fieldLink RX8 20 "AgainAgainModel" "many" "[I", Cond.methodLink RX8 130 yX8_power, Cond.static yX8_power, Cond.code yX8_power cX8_power 6 (some .long), Cond.methodLink RX8 165 yX8_findPlanWorth]
def wsX8_rests_r2 : List Cond := [Cond.instanceMethod yX8_findPlanWorth, Cond.selects RX8 yX8_findPlanWorth yX8_findPlanWorth, Cond.code yX8_findPlanWorth cX8_findPlanWorth 7 none, Cond.fieldLink RX8 41 "AgainAgainModel" "seenAt" "[I", Cond.fieldLink RX8 38 "AgainAgainModel" "row" "[I", Cond.fieldLink RX8 7 "AgainAgainModel" "pays" "[I", Cond.fieldLink RX8 23 "AgainAgainModel" "acts" "[I", Cond.fieldLink RX8 26 "AgainAgainModel" "nexts" "[I", Cond.fieldLink RX8 101 "AgainAgainModel" "tail" "I", Cond.fieldLink RX8 104 "AgainAgainModel" "ring" "I", Cond.methodLink RX8 144 yX8_worthOfRow, Cond.instanceMethod yX8_worthOfRow, Cond.selects RX8 yX8_worthOfRow yX8_worthOfRow, Cond.code yX8_worthOfRow cX8_worthOfRow 7 none, Cond.fieldLink RX8 13 "AgainAgainModel" "up" "I", Cond.fieldLink RX8 17 "AgainAgainModel" "by" "I", Cond.methodLink RX8 134 yX8_lowest, Cond.instanceMethod yX8_lowest, Cond.selects RX8 yX8_lowest yX8_lowest, Cond.code yX8_lowest cX8_lowest 11 none, Cond.methodLink RX8 147 yX8_findWorth, Cond.instanceMethod yX8_findWorth, Cond.selects RX8 yX8_findWorth yX8_findWorth, Cond.code yX8_findWorth cX8_findWorth 4 none]
def wsX8_rests_r3 : List Cond := [Cond.methodLink RX8 113 yX8_plays, Cond.instanceMethod yX8_plays, Cond.selects RX8 yX8_plays yX8_plays, Cond.code yX8_plays cX8_plays 6 none, Cond.methodLink RX8 94 yX8_payOf, Cond.instanceMethod yX8_payOf, Cond.selects RX8 yX8_payOf yX8_payOf, Cond.code yX8_payOf cX8_payOf 4 (some .int), Cond.methodLink RX8 83 yX8_mine, Cond.instanceMethod yX8_mine, Cond.selects RX8 yX8_mine yX8_mine, Cond.code yX8_mine cX8_mine 3 (some .int), Cond.methodLink RX8 87 yX8_theirs, Cond.instanceMethod yX8_theirs, Cond.selects RX8 yX8_theirs yX8_theirs, Cond.code yX8_theirs cX8_theirs 3 (some .int), Cond.methodLink RX8 98 yX8_next, Cond.instanceMethod yX8_next, Cond.selects RX8 yX8_next yX8_next, Cond.code yX8_next cX8_next 4 (some .int), Cond.methodLink RX8 90 yX8_after, Cond.instanceMethod yX8_after, Cond.selects RX8 yX8_after yX8_after, Cond.code yX8_after cX8_after 6 (some .int)]
def wsX8_rests_r4 : List Cond := [Cond.methodLink RX8 181 yX8_turned, Cond.static yX8_turned, Cond.code yX8_turned cX8_turned 1 (some .int)]
def wsX8_rests : List Cond := .code yX8_rests cX8_rests 4 (some .boolean) :: ((wsX8_rests_r1 ++ (wsX8_rests_r2 ++ (wsX8_rests_r3 ++ wsX8_rests_r4))) ++ wsX80)
def wsX8_rest_r1 : List Cond := [Cond.methodLink RX8 107 yX8_areBoth, Cond.instanceMethod yX8_areBoth, Cond.selects RX8 yX8_areBoth yX8_areBoth, Cond.initialized RX8, Cond.code yX8_areBoth cX8_areBoth 3 (some .boolean), Cond.methodLink RX8 66 yX8_isMachine, Cond.instanceMethod yX8_isMachine, Cond.selects RX8 yX8_isMachine yX8_isMachine, Cond.code yX8_isMachine cX8_isMachine 2 (some .boolean), Cond.fieldLink RX8 63 "AgainAgainModel" "machines" "I", Cond.methodLink RX8 53 yX8_in, Cond.static yX8_in, Cond.code yX8_in cX8_in 6 (some .boolean), Cond.methodLink RX8 184 yX8_rests, Cond.instanceMethod yX8_rests, Cond.selects RX8 yX8_rests yX8_rests, Cond.code yX8_rests cX8_rests 4 (some .boolean), Cond.methodLink RX8 177 yX8_isBest, Cond.instanceMethod yX8_isBest, Cond.selects RX8 yX8_isBest yX8_isBest, Cond.code yX8_isBest cX8_isBest 4 (some .boolean), Cond.fieldLink RX8 123 "AgainAgainModel" "over" "J", Cond.fieldLink RX8 171 "AgainAgainModel" "bestOver" "J", Cond.fieldLink RX8 127 "AgainAgainModel" "under" "J"]
def wsX8_rest_r2 : List Cond := [Cond.fieldLink RX8 168 "AgainAgainModel" "bestUnder" "J", Cond.methodLink RX8 174 yX8_findBest, Cond.instanceMethod yX8_findBest, Cond.selects RX8 yX8_findBest yX8_findBest, Cond.code yX8_findBest cX8_findBest 4 none, Cond.fieldLink RX8 159 "AgainAgainModel" "bestPlan" "I", Cond.methodLink RX8 162 yX8_plans, Cond.instanceMethod yX8_plans, Cond.selects RX8 yX8_plans yX8_plans, Cond.code yX8_plans cX8_plans 2 (some .int), Cond.constantLong RX8 74 (3), Cond.fieldLink RX8 20 "AgainAgainModel" "many" "[I", Cond.methodLink RX8 130 yX8_power, Cond.static yX8_power, Cond.code yX8_power cX8_power 6 (some .long), Cond.methodLink RX8 165 yX8_findPlanWorth, Cond.instanceMethod yX8_findPlanWorth, Cond.selects RX8 yX8_findPlanWorth yX8_findPlanWorth, Cond.code yX8_findPlanWorth cX8_findPlanWorth 7 none, Cond.fieldLink RX8 41 "AgainAgainModel" "seenAt" "[I", Cond.fieldLink RX8 38 "AgainAgainModel" "row" "[I", Cond.fieldLink RX8 7 "AgainAgainModel" "pays" "[I", Cond.fieldLink RX8 23 "AgainAgainModel" "acts" "[I", Cond.fieldLink RX8 26 "AgainAgainModel" "nexts" "[I"]
def wsX8_rest_r3 : List Cond := [Cond.fieldLink RX8 101 "AgainAgainModel" "tail" "I", Cond.fieldLink RX8 104 "AgainAgainModel" "ring" "I", Cond.methodLink RX8 144 yX8_worthOfRow, Cond.instanceMethod yX8_worthOfRow, Cond.selects RX8 yX8_worthOfRow yX8_worthOfRow, Cond.code yX8_worthOfRow cX8_worthOfRow 7 none, Cond.fieldLink RX8 13 "AgainAgainModel" "up" "I", Cond.fieldLink RX8 17 "AgainAgainModel" "by" "I", Cond.methodLink RX8 134 yX8_lowest, Cond.instanceMethod yX8_lowest, Cond.selects RX8 yX8_lowest yX8_lowest, Cond.code yX8_lowest cX8_lowest 11 none, Cond.methodLink RX8 147 yX8_findWorth, Cond.instanceMethod yX8_findWorth, Cond.selects RX8 yX8_findWorth yX8_findWorth, Cond.code yX8_findWorth cX8_findWorth 4 none, Cond.methodLink RX8 113 yX8_plays, Cond.instanceMethod yX8_plays, Cond.selects RX8 yX8_plays yX8_plays, Cond.code yX8_plays cX8_plays 6 none, Cond.methodLink RX8 94 yX8_payOf, Cond.instanceMethod yX8_payOf, Cond.selects RX8 yX8_payOf yX8_payOf, Cond.code yX8_payOf cX8_payOf 4 (some .int)]
def wsX8_rest_r4 : List Cond := [Cond.methodLink RX8 83 yX8_mine, Cond.instanceMethod yX8_mine, Cond.selects RX8 yX8_mine yX8_mine, Cond.code yX8_mine cX8_mine 3 (some .int), Cond.methodLink RX8 87 yX8_theirs, Cond.instanceMethod yX8_theirs, Cond.selects RX8 yX8_theirs yX8_theirs, Cond.code yX8_theirs cX8_theirs 3 (some .int), Cond.methodLink RX8 98 yX8_next, Cond.instanceMethod yX8_next, Cond.selects RX8 yX8_next yX8_next, Cond.code yX8_next cX8_next 4 (some .int), Cond.methodLink RX8 90 yX8_after, Cond.instanceMethod yX8_after, Cond.selects RX8 yX8_after yX8_after, Cond.code yX8_after cX8_after 6 (some .int), Cond.methodLink RX8 181 yX8_turned, Cond.static yX8_turned, Cond.code yX8_turned cX8_turned 1 (some .int)]
def wsX8_rest : List Cond := .code yX8_rest cX8_rest 3 (some .int) :: ((wsX8_rest_r1 ++ (wsX8_rest_r2 ++ (wsX8_rest_r3 ++ wsX8_rest_r4))) ++ wsX80)
def wsX8_firstThatMoves_r1 : List Cond := [Cond.fieldLink RX8 20 "AgainAgainModel" "many" "[I", Cond.methodLink RX8 184 yX8_rests, Cond.instanceMethod yX8_rests, Cond.selects RX8 yX8_rests yX8_rests, Cond.initialized RX8, Cond.code yX8_rests cX8_rests 4 (some .boolean), Cond.methodLink RX8 177 yX8_isBest, Cond.instanceMethod yX8_isBest, Cond.selects RX8 yX8_isBest yX8_isBest, Cond.code yX8_isBest cX8_isBest 4 (some .boolean), Cond.fieldLink RX8 123 "AgainAgainModel" "over" "J", Cond.fieldLink RX8 171 "AgainAgainModel" "bestOver" "J", Cond.fieldLink RX8 127 "AgainAgainModel" "under" "J", Cond.fieldLink RX8 168 "AgainAgainModel" "bestUnder" "J", Cond.methodLink RX8 174 yX8_findBest, Cond.instanceMethod yX8_findBest, Cond.selects RX8 yX8_findBest yX8_findBest, Cond.code yX8_findBest cX8_findBest 4 none, Cond.fieldLink RX8 159 "AgainAgainModel" "bestPlan" "I", Cond.methodLink RX8 162 yX8_plans, Cond.instanceMethod yX8_plans, Cond.selects RX8 yX8_plans yX8_plans, Cond.code yX8_plans cX8_plans 2 (some .int), Cond.constantLong RX8 74 (3)]
def wsX8_firstThatMoves_r2 : List Cond := [Cond.methodLink RX8 130 yX8_power, Cond.static yX8_power, Cond.code yX8_power cX8_power 6 (some .long), Cond.methodLink RX8 165 yX8_findPlanWorth, Cond.instanceMethod yX8_findPlanWorth, Cond.selects RX8 yX8_findPlanWorth yX8_findPlanWorth, Cond.code yX8_findPlanWorth cX8_findPlanWorth 7 none, Cond.fieldLink RX8 41 "AgainAgainModel" "seenAt" "[I", Cond.fieldLink RX8 38 "AgainAgainModel" "row" "[I", Cond.fieldLink RX8 7 "AgainAgainModel" "pays" "[I", Cond.fieldLink RX8 23 "AgainAgainModel" "acts" "[I", Cond.fieldLink RX8 26 "AgainAgainModel" "nexts" "[I", Cond.fieldLink RX8 101 "AgainAgainModel" "tail" "I", Cond.fieldLink RX8 104 "AgainAgainModel" "ring" "I", Cond.methodLink RX8 144 yX8_worthOfRow, Cond.instanceMethod yX8_worthOfRow, Cond.selects RX8 yX8_worthOfRow yX8_worthOfRow, Cond.code yX8_worthOfRow cX8_worthOfRow 7 none, Cond.fieldLink RX8 13 "AgainAgainModel" "up" "I", Cond.fieldLink RX8 17 "AgainAgainModel" "by" "I", Cond.methodLink RX8 134 yX8_lowest, Cond.instanceMethod yX8_lowest, Cond.selects RX8 yX8_lowest yX8_lowest, Cond.code yX8_lowest cX8_lowest 11 none]
def wsX8_firstThatMoves_r3 : List Cond := [Cond.methodLink RX8 147 yX8_findWorth, Cond.instanceMethod yX8_findWorth, Cond.selects RX8 yX8_findWorth yX8_findWorth, Cond.code yX8_findWorth cX8_findWorth 4 none, Cond.methodLink RX8 113 yX8_plays, Cond.instanceMethod yX8_plays, Cond.selects RX8 yX8_plays yX8_plays, Cond.code yX8_plays cX8_plays 6 none, Cond.methodLink RX8 94 yX8_payOf, Cond.instanceMethod yX8_payOf, Cond.selects RX8 yX8_payOf yX8_payOf, Cond.code yX8_payOf cX8_payOf 4 (some .int), Cond.methodLink RX8 83 yX8_mine, Cond.instanceMethod yX8_mine, Cond.selects RX8 yX8_mine yX8_mine, Cond.code yX8_mine cX8_mine 3 (some .int), Cond.methodLink RX8 87 yX8_theirs, Cond.instanceMethod yX8_theirs, Cond.selects RX8 yX8_theirs yX8_theirs, Cond.code yX8_theirs cX8_theirs 3 (some .int), Cond.methodLink RX8 98 yX8_next, Cond.instanceMethod yX8_next, Cond.selects RX8 yX8_next yX8_next, Cond.code yX8_next cX8_next 4 (some .int)]
def wsX8_firstThatMoves_r4 : List Cond := [Cond.methodLink RX8 90 yX8_after, Cond.instanceMethod yX8_after, Cond.selects RX8 yX8_after yX8_after, Cond.code yX8_after cX8_after 6 (some .int), Cond.methodLink RX8 181 yX8_turned, Cond.static yX8_turned, Cond.code yX8_turned cX8_turned 1 (some .int)]
def wsX8_firstThatMoves : List Cond := .code yX8_firstThatMoves cX8_firstThatMoves 5 (some .int) :: ((wsX8_firstThatMoves_r1 ++ (wsX8_firstThatMoves_r2 ++ (wsX8_firstThatMoves_r3 ++ wsX8_firstThatMoves_r4))) ++ wsX80)
def wsX8_everywhere_r1 : List Cond := [Cond.methodLink RX8 107 yX8_areBoth, Cond.instanceMethod yX8_areBoth, Cond.selects RX8 yX8_areBoth yX8_areBoth, Cond.initialized RX8, Cond.code yX8_areBoth cX8_areBoth 3 (some .boolean), Cond.methodLink RX8 66 yX8_isMachine, Cond.instanceMethod yX8_isMachine, Cond.selects RX8 yX8_isMachine yX8_isMachine, Cond.code yX8_isMachine cX8_isMachine 2 (some .boolean), Cond.fieldLink RX8 63 "AgainAgainModel" "machines" "I", Cond.methodLink RX8 53 yX8_in, Cond.static yX8_in, Cond.code yX8_in cX8_in 6 (some .boolean), Cond.methodLink RX8 187 yX8_firstThatMoves, Cond.instanceMethod yX8_firstThatMoves, Cond.selects RX8 yX8_firstThatMoves yX8_firstThatMoves, Cond.code yX8_firstThatMoves cX8_firstThatMoves 5 (some .int), Cond.fieldLink RX8 20 "AgainAgainModel" "many" "[I", Cond.methodLink RX8 184 yX8_rests, Cond.instanceMethod yX8_rests, Cond.selects RX8 yX8_rests yX8_rests, Cond.code yX8_rests cX8_rests 4 (some .boolean), Cond.methodLink RX8 177 yX8_isBest, Cond.instanceMethod yX8_isBest]
def wsX8_everywhere_r2 : List Cond := [Cond.selects RX8 yX8_isBest yX8_isBest, Cond.code yX8_isBest cX8_isBest 4 (some .boolean), Cond.fieldLink RX8 123 "AgainAgainModel" "over" "J", Cond.fieldLink RX8 171 "AgainAgainModel" "bestOver" "J", Cond.fieldLink RX8 127 "AgainAgainModel" "under" "J", Cond.fieldLink RX8 168 "AgainAgainModel" "bestUnder" "J", Cond.methodLink RX8 174 yX8_findBest, Cond.instanceMethod yX8_findBest, Cond.selects RX8 yX8_findBest yX8_findBest, Cond.code yX8_findBest cX8_findBest 4 none, Cond.fieldLink RX8 159 "AgainAgainModel" "bestPlan" "I", Cond.methodLink RX8 162 yX8_plans, Cond.instanceMethod yX8_plans, Cond.selects RX8 yX8_plans yX8_plans, Cond.code yX8_plans cX8_plans 2 (some .int), Cond.constantLong RX8 74 (3), Cond.methodLink RX8 130 yX8_power, Cond.static yX8_power, Cond.code yX8_power cX8_power 6 (some .long), Cond.methodLink RX8 165 yX8_findPlanWorth, Cond.instanceMethod yX8_findPlanWorth, Cond.selects RX8 yX8_findPlanWorth yX8_findPlanWorth, Cond.code yX8_findPlanWorth cX8_findPlanWorth 7 none, Cond.fieldLink RX8 41 "AgainAgainModel" "seenAt" "[I"]
def wsX8_everywhere_r3 : List Cond := [Cond.fieldLink RX8 38 "AgainAgainModel" "row" "[I", Cond.fieldLink RX8 7 "AgainAgainModel" "pays" "[I", Cond.fieldLink RX8 23 "AgainAgainModel" "acts" "[I", Cond.fieldLink RX8 26 "AgainAgainModel" "nexts" "[I", Cond.fieldLink RX8 101 "AgainAgainModel" "tail" "I", Cond.fieldLink RX8 104 "AgainAgainModel" "ring" "I", Cond.methodLink RX8 144 yX8_worthOfRow, Cond.instanceMethod yX8_worthOfRow, Cond.selects RX8 yX8_worthOfRow yX8_worthOfRow, Cond.code yX8_worthOfRow cX8_worthOfRow 7 none, Cond.fieldLink RX8 13 "AgainAgainModel" "up" "I", Cond.fieldLink RX8 17 "AgainAgainModel" "by" "I", Cond.methodLink RX8 134 yX8_lowest, Cond.instanceMethod yX8_lowest, Cond.selects RX8 yX8_lowest yX8_lowest, Cond.code yX8_lowest cX8_lowest 11 none, Cond.methodLink RX8 147 yX8_findWorth, Cond.instanceMethod yX8_findWorth, Cond.selects RX8 yX8_findWorth yX8_findWorth, Cond.code yX8_findWorth cX8_findWorth 4 none, Cond.methodLink RX8 113 yX8_plays, Cond.instanceMethod yX8_plays, Cond.selects RX8 yX8_plays yX8_plays, Cond.code yX8_plays cX8_plays 6 none]
def wsX8_everywhere_r4 : List Cond := [Cond.methodLink RX8 94 yX8_payOf, Cond.instanceMethod yX8_payOf, Cond.selects RX8 yX8_payOf yX8_payOf, Cond.code yX8_payOf cX8_payOf 4 (some .int), Cond.methodLink RX8 83 yX8_mine, Cond.instanceMethod yX8_mine, Cond.selects RX8 yX8_mine yX8_mine, Cond.code yX8_mine cX8_mine 3 (some .int), Cond.methodLink RX8 87 yX8_theirs, Cond.instanceMethod yX8_theirs, Cond.selects RX8 yX8_theirs yX8_theirs, Cond.code yX8_theirs cX8_theirs 3 (some .int), Cond.methodLink RX8 98 yX8_next, Cond.instanceMethod yX8_next, Cond.selects RX8 yX8_next yX8_next, Cond.code yX8_next cX8_next 4 (some .int), Cond.methodLink RX8 90 yX8_after, Cond.instanceMethod yX8_after, Cond.selects RX8 yX8_after yX8_after, Cond.code yX8_after cX8_after 6 (some .int), Cond.methodLink RX8 181 yX8_turned, Cond.static yX8_turned, Cond.code yX8_turned cX8_turned 1 (some .int)]
def wsX8_everywhere : List Cond := .code yX8_everywhere cX8_everywhere 3 (some .int) :: ((wsX8_everywhere_r1 ++ (wsX8_everywhere_r2 ++ (wsX8_everywhere_r3 ++ wsX8_everywhere_r4))) ++ wsX80)
def wsX8_deviation_r1 : List Cond := [Cond.constantLong RX8 51 (2), Cond.fieldLink RX8 159 "AgainAgainModel" "bestPlan" "I", Cond.methodLink RX8 107 yX8_areBoth, Cond.instanceMethod yX8_areBoth, Cond.selects RX8 yX8_areBoth yX8_areBoth, Cond.initialized RX8, Cond.code yX8_areBoth cX8_areBoth 3 (some .boolean), Cond.methodLink RX8 66 yX8_isMachine, Cond.instanceMethod yX8_isMachine, Cond.selects RX8 yX8_isMachine yX8_isMachine, Cond.code yX8_isMachine cX8_isMachine 2 (some .boolean), Cond.fieldLink RX8 63 "AgainAgainModel" "machines" "I", Cond.methodLink RX8 53 yX8_in, Cond.static yX8_in, Cond.code yX8_in cX8_in 6 (some .boolean), Cond.methodLink RX8 187 yX8_firstThatMoves, Cond.instanceMethod yX8_firstThatMoves, Cond.selects RX8 yX8_firstThatMoves yX8_firstThatMoves, Cond.code yX8_firstThatMoves cX8_firstThatMoves 5 (some .int), Cond.fieldLink RX8 20 "AgainAgainModel" "many" "[I", Cond.methodLink RX8 184 yX8_rests, Cond.instanceMethod yX8_rests, Cond.selects RX8 yX8_rests yX8_rests, Cond.code yX8_rests cX8_rests 4 (some .boolean)]
def wsX8_deviation_r2 : List Cond := [Cond.methodLink RX8 177 yX8_isBest, Cond.instanceMethod yX8_isBest, Cond.selects RX8 yX8_isBest yX8_isBest, Cond.code yX8_isBest cX8_isBest 4 (some .boolean), Cond.fieldLink RX8 123 "AgainAgainModel" "over" "J", Cond.fieldLink RX8 171 "AgainAgainModel" "bestOver" "J", Cond.fieldLink RX8 127 "AgainAgainModel" "under" "J", Cond.fieldLink RX8 168 "AgainAgainModel" "bestUnder" "J", Cond.methodLink RX8 174 yX8_findBest, Cond.instanceMethod yX8_findBest, Cond.selects RX8 yX8_findBest yX8_findBest, Cond.code yX8_findBest cX8_findBest 4 none, Cond.methodLink RX8 162 yX8_plans, Cond.instanceMethod yX8_plans, Cond.selects RX8 yX8_plans yX8_plans, Cond.code yX8_plans cX8_plans 2 (some .int), Cond.constantLong RX8 74 (3), Cond.methodLink RX8 130 yX8_power, Cond.static yX8_power, Cond.code yX8_power cX8_power 6 (some .long), Cond.methodLink RX8 165 yX8_findPlanWorth, Cond.instanceMethod yX8_findPlanWorth, Cond.selects RX8 yX8_findPlanWorth yX8_findPlanWorth, Cond.code yX8_findPlanWorth cX8_findPlanWorth 7 none]
def wsX8_deviation_r3 : List Cond := [Cond.fieldLink RX8 41 "AgainAgainModel" "seenAt" "[I", Cond.fieldLink RX8 38 "AgainAgainModel" "row" "[I", Cond.fieldLink RX8 7 "AgainAgainModel" "pays" "[I", Cond.fieldLink RX8 23 "AgainAgainModel" "acts" "[I", Cond.fieldLink RX8 26 "AgainAgainModel" "nexts" "[I", Cond.fieldLink RX8 101 "AgainAgainModel" "tail" "I", Cond.fieldLink RX8 104 "AgainAgainModel" "ring" "I", Cond.methodLink RX8 144 yX8_worthOfRow, Cond.instanceMethod yX8_worthOfRow, Cond.selects RX8 yX8_worthOfRow yX8_worthOfRow, Cond.code yX8_worthOfRow cX8_worthOfRow 7 none, Cond.fieldLink RX8 13 "AgainAgainModel" "up" "I", Cond.fieldLink RX8 17 "AgainAgainModel" "by" "I", Cond.methodLink RX8 134 yX8_lowest, Cond.instanceMethod yX8_lowest, Cond.selects RX8 yX8_lowest yX8_lowest, Cond.code yX8_lowest cX8_lowest 11 none, Cond.methodLink RX8 147 yX8_findWorth, Cond.instanceMethod yX8_findWorth, Cond.selects RX8 yX8_findWorth yX8_findWorth, Cond.code yX8_findWorth cX8_findWorth 4 none, Cond.methodLink RX8 113 yX8_plays, Cond.instanceMethod yX8_plays, Cond.selects RX8 yX8_plays yX8_plays]
def wsX8_deviation_r4 : List Cond := [Cond.code yX8_plays cX8_plays 6 none, Cond.methodLink RX8 94 yX8_payOf, Cond.instanceMethod yX8_payOf, Cond.selects RX8 yX8_payOf yX8_payOf, Cond.code yX8_payOf cX8_payOf 4 (some .int), Cond.methodLink RX8 83 yX8_mine, Cond.instanceMethod yX8_mine, Cond.selects RX8 yX8_mine yX8_mine, Cond.code yX8_mine cX8_mine 3 (some .int), Cond.methodLink RX8 87 yX8_theirs, Cond.instanceMethod yX8_theirs, Cond.selects RX8 yX8_theirs yX8_theirs, Cond.code yX8_theirs cX8_theirs 3 (some .int), Cond.methodLink RX8 98 yX8_next, Cond.instanceMethod yX8_next, Cond.selects RX8 yX8_next yX8_next, Cond.code yX8_next cX8_next 4 (some .int), Cond.methodLink RX8 90 yX8_after, Cond.instanceMethod yX8_after, Cond.selects RX8 yX8_after yX8_after, Cond.code yX8_after cX8_after 6 (some .int), Cond.methodLink RX8 181 yX8_turned, Cond.static yX8_turned, Cond.code yX8_turned cX8_turned 1 (some .int)]
def wsX8_deviation : List Cond := .code yX8_deviation cX8_deviation 6 (some .int) :: ((wsX8_deviation_r1 ++ (wsX8_deviation_r2 ++ (wsX8_deviation_r3 ++ wsX8_deviation_r4))) ++ wsX80)
def wsX8_compare_r1 : List Cond := [Cond.fieldLink RX8 123 "AgainAgainModel" "over" "J", Cond.fieldLink RX8 127 "AgainAgainModel" "under" "J", Cond.methodLink RX8 147 yX8_findWorth, Cond.instanceMethod yX8_findWorth, Cond.selects RX8 yX8_findWorth yX8_findWorth, Cond.initialized RX8, Cond.code yX8_findWorth cX8_findWorth 4 none, Cond.methodLink RX8 113 yX8_plays, Cond.instanceMethod yX8_plays, Cond.selects RX8 yX8_plays yX8_plays, Cond.code yX8_plays cX8_plays 6 none, Cond.fieldLink RX8 41 "AgainAgainModel" "seenAt" "[I", Cond.fieldLink RX8 38 "AgainAgainModel" "row" "[I", Cond.fieldLink RX8 101 "AgainAgainModel" "tail" "I", Cond.fieldLink RX8 104 "AgainAgainModel" "ring" "I", Cond.methodLink RX8 94 yX8_payOf, Cond.instanceMethod yX8_payOf, Cond.selects RX8 yX8_payOf yX8_payOf, Cond.code yX8_payOf cX8_payOf 4 (some .int), Cond.fieldLink RX8 7 "AgainAgainModel" "pays" "[I", Cond.methodLink RX8 83 yX8_mine, Cond.instanceMethod yX8_mine, Cond.selects RX8 yX8_mine yX8_mine, Cond.code yX8_mine cX8_mine 3 (some .int)]
def wsX8_compare_r2 : List Cond := [Cond.fieldLink RX8 23 "AgainAgainModel" "acts" "[I", Cond.methodLink RX8 87 yX8_theirs, Cond.instanceMethod yX8_theirs, Cond.selects RX8 yX8_theirs yX8_theirs, Cond.code yX8_theirs cX8_theirs 3 (some .int), Cond.methodLink RX8 98 yX8_next, Cond.instanceMethod yX8_next, Cond.selects RX8 yX8_next yX8_next, Cond.code yX8_next cX8_next 4 (some .int), Cond.methodLink RX8 90 yX8_after, Cond.instanceMethod yX8_after, Cond.selects RX8 yX8_after yX8_after, Cond.code yX8_after cX8_after 6 (some .int), Cond.fieldLink RX8 26 "AgainAgainModel" "nexts" "[I", Cond.methodLink RX8 144 yX8_worthOfRow, Cond.instanceMethod yX8_worthOfRow, Cond.selects RX8 yX8_worthOfRow yX8_worthOfRow, Cond.code yX8_worthOfRow cX8_worthOfRow 7 none, Cond.fieldLink RX8 13 "AgainAgainModel" "up" "I", Cond.fieldLink RX8 17 "AgainAgainModel" "by" "I", Cond.methodLink RX8 130 yX8_power, Cond.static yX8_power, Cond.code yX8_power cX8_power 6 (some .long), Cond.methodLink RX8 134 yX8_lowest]
def wsX8_compare_r3 : List Cond := [Cond.instanceMethod yX8_lowest, Cond.selects RX8 yX8_lowest yX8_lowest, Cond.code yX8_lowest cX8_lowest 11 none]
def wsX8_compare : List Cond := .code yX8_compare cX8_compare 13 (some .int) :: ((wsX8_compare_r1 ++ (wsX8_compare_r2 ++ wsX8_compare_r3)) ++ wsX80)
def wsX8_doesResist_r1 : List Cond := [Cond.methodLink RX8 190 yX8_compare, Cond.instanceMethod yX8_compare, Cond.selects RX8 yX8_compare yX8_compare, Cond.initialized RX8, Cond.code yX8_compare cX8_compare 13 (some .int), Cond.fieldLink RX8 123 "AgainAgainModel" "over" "J", Cond.fieldLink RX8 127 "AgainAgainModel" "under" "J", Cond.methodLink RX8 147 yX8_findWorth, Cond.instanceMethod yX8_findWorth, Cond.selects RX8 yX8_findWorth yX8_findWorth, Cond.code yX8_findWorth cX8_findWorth 4 none, Cond.methodLink RX8 113 yX8_plays, Cond.instanceMethod yX8_plays, Cond.selects RX8 yX8_plays yX8_plays, Cond.code yX8_plays cX8_plays 6 none, Cond.fieldLink RX8 41 "AgainAgainModel" "seenAt" "[I", Cond.fieldLink RX8 38 "AgainAgainModel" "row" "[I", Cond.fieldLink RX8 101 "AgainAgainModel" "tail" "I", Cond.fieldLink RX8 104 "AgainAgainModel" "ring" "I", Cond.methodLink RX8 94 yX8_payOf, Cond.instanceMethod yX8_payOf, Cond.selects RX8 yX8_payOf yX8_payOf, Cond.code yX8_payOf cX8_payOf 4 (some .int), Cond.fieldLink RX8 7 "AgainAgainModel" "pays" "[I"]
def wsX8_doesResist_r2 : List Cond := [Cond.methodLink RX8 83 yX8_mine, Cond.instanceMethod yX8_mine, Cond.selects RX8 yX8_mine yX8_mine, Cond.code yX8_mine cX8_mine 3 (some .int), Cond.fieldLink RX8 23 "AgainAgainModel" "acts" "[I", Cond.methodLink RX8 87 yX8_theirs, Cond.instanceMethod yX8_theirs, Cond.selects RX8 yX8_theirs yX8_theirs, Cond.code yX8_theirs cX8_theirs 3 (some .int), Cond.methodLink RX8 98 yX8_next, Cond.instanceMethod yX8_next, Cond.selects RX8 yX8_next yX8_next, Cond.code yX8_next cX8_next 4 (some .int), Cond.methodLink RX8 90 yX8_after, Cond.instanceMethod yX8_after, Cond.selects RX8 yX8_after yX8_after, Cond.code yX8_after cX8_after 6 (some .int), Cond.fieldLink RX8 26 "AgainAgainModel" "nexts" "[I", Cond.methodLink RX8 144 yX8_worthOfRow, Cond.instanceMethod yX8_worthOfRow, Cond.selects RX8 yX8_worthOfRow yX8_worthOfRow, Cond.code yX8_worthOfRow cX8_worthOfRow 7 none, Cond.fieldLink RX8 13 "AgainAgainModel" "up" "I", Cond.fieldLink RX8 17 "AgainAgainModel" "by" "I"]
def wsX8_doesResist_r3 : List Cond := [Cond.methodLink RX8 130 yX8_power, Cond.static yX8_power, Cond.code yX8_power cX8_power 6 (some .long), Cond.methodLink RX8 134 yX8_lowest, Cond.instanceMethod yX8_lowest, Cond.selects RX8 yX8_lowest yX8_lowest, Cond.code yX8_lowest cX8_lowest 11 none]
def wsX8_doesResist : List Cond := .code yX8_doesResist cX8_doesResist 4 (some .boolean) :: ((wsX8_doesResist_r1 ++ (wsX8_doesResist_r2 ++ wsX8_doesResist_r3)) ++ wsX80)
def wsX8_resists_r1 : List Cond := [Cond.methodLink RX8 107 yX8_areBoth, Cond.instanceMethod yX8_areBoth, Cond.selects RX8 yX8_areBoth yX8_areBoth, Cond.initialized RX8, Cond.code yX8_areBoth cX8_areBoth 3 (some .boolean), Cond.methodLink RX8 66 yX8_isMachine, Cond.instanceMethod yX8_isMachine, Cond.selects RX8 yX8_isMachine yX8_isMachine, Cond.code yX8_isMachine cX8_isMachine 2 (some .boolean), Cond.fieldLink RX8 63 "AgainAgainModel" "machines" "I", Cond.methodLink RX8 53 yX8_in, Cond.static yX8_in, Cond.code yX8_in cX8_in 6 (some .boolean), Cond.methodLink RX8 194 yX8_doesResist, Cond.instanceMethod yX8_doesResist, Cond.selects RX8 yX8_doesResist yX8_doesResist, Cond.code yX8_doesResist cX8_doesResist 4 (some .boolean), Cond.methodLink RX8 190 yX8_compare, Cond.instanceMethod yX8_compare, Cond.selects RX8 yX8_compare yX8_compare, Cond.code yX8_compare cX8_compare 13 (some .int), Cond.fieldLink RX8 123 "AgainAgainModel" "over" "J", Cond.fieldLink RX8 127 "AgainAgainModel" "under" "J", Cond.methodLink RX8 147 yX8_findWorth]
def wsX8_resists_r2 : List Cond := [Cond.instanceMethod yX8_findWorth, Cond.selects RX8 yX8_findWorth yX8_findWorth, Cond.code yX8_findWorth cX8_findWorth 4 none, Cond.methodLink RX8 113 yX8_plays, Cond.instanceMethod yX8_plays, Cond.selects RX8 yX8_plays yX8_plays, Cond.code yX8_plays cX8_plays 6 none, Cond.fieldLink RX8 41 "AgainAgainModel" "seenAt" "[I", Cond.fieldLink RX8 38 "AgainAgainModel" "row" "[I", Cond.fieldLink RX8 101 "AgainAgainModel" "tail" "I", Cond.fieldLink RX8 104 "AgainAgainModel" "ring" "I", Cond.methodLink RX8 94 yX8_payOf, Cond.instanceMethod yX8_payOf, Cond.selects RX8 yX8_payOf yX8_payOf, Cond.code yX8_payOf cX8_payOf 4 (some .int), Cond.fieldLink RX8 7 "AgainAgainModel" "pays" "[I", Cond.methodLink RX8 83 yX8_mine, Cond.instanceMethod yX8_mine, Cond.selects RX8 yX8_mine yX8_mine, Cond.code yX8_mine cX8_mine 3 (some .int), Cond.fieldLink RX8 23 "AgainAgainModel" "acts" "[I", Cond.methodLink RX8 87 yX8_theirs, Cond.instanceMethod yX8_theirs, Cond.selects RX8 yX8_theirs yX8_theirs]
def wsX8_resists_r3 : List Cond := [Cond.code yX8_theirs cX8_theirs 3 (some .int), Cond.methodLink RX8 98 yX8_next, Cond.instanceMethod yX8_next, Cond.selects RX8 yX8_next yX8_next, Cond.code yX8_next cX8_next 4 (some .int), Cond.methodLink RX8 90 yX8_after, Cond.instanceMethod yX8_after, Cond.selects RX8 yX8_after yX8_after, Cond.code yX8_after cX8_after 6 (some .int), Cond.fieldLink RX8 26 "AgainAgainModel" "nexts" "[I", Cond.methodLink RX8 144 yX8_worthOfRow, Cond.instanceMethod yX8_worthOfRow, Cond.selects RX8 yX8_worthOfRow yX8_worthOfRow, Cond.code yX8_worthOfRow cX8_worthOfRow 7 none, Cond.fieldLink RX8 13 "AgainAgainModel" "up" "I", Cond.fieldLink RX8 17 "AgainAgainModel" "by" "I", Cond.methodLink RX8 130 yX8_power, Cond.static yX8_power, Cond.code yX8_power cX8_power 6 (some .long), Cond.methodLink RX8 134 yX8_lowest, Cond.instanceMethod yX8_lowest, Cond.selects RX8 yX8_lowest yX8_lowest, Cond.code yX8_lowest cX8_lowest 11 none]
def wsX8_resists : List Cond := .code yX8_resists cX8_resists 3 (some .int) :: ((wsX8_resists_r1 ++ (wsX8_resists_r2 ++ wsX8_resists_r3)) ++ wsX80)
def wsX8_invaders_r1 : List Cond := [Cond.fieldLink RX8 63 "AgainAgainModel" "machines" "I", Cond.methodLink RX8 66 yX8_isMachine, Cond.instanceMethod yX8_isMachine, Cond.selects RX8 yX8_isMachine yX8_isMachine, Cond.initialized RX8, Cond.code yX8_isMachine cX8_isMachine 2 (some .boolean), Cond.methodLink RX8 53 yX8_in, Cond.static yX8_in, Cond.code yX8_in cX8_in 6 (some .boolean), Cond.methodLink RX8 194 yX8_doesResist, Cond.instanceMethod yX8_doesResist, Cond.selects RX8 yX8_doesResist yX8_doesResist, Cond.code yX8_doesResist cX8_doesResist 4 (some .boolean), Cond.methodLink RX8 190 yX8_compare, Cond.instanceMethod yX8_compare, Cond.selects RX8 yX8_compare yX8_compare, Cond.code yX8_compare cX8_compare 13 (some .int), Cond.fieldLink RX8 123 "AgainAgainModel" "over" "J", Cond.fieldLink RX8 127 "AgainAgainModel" "under" "J", Cond.methodLink RX8 147 yX8_findWorth, Cond.instanceMethod yX8_findWorth, Cond.selects RX8 yX8_findWorth yX8_findWorth, Cond.code yX8_findWorth cX8_findWorth 4 none, Cond.methodLink RX8 113 yX8_plays]
def wsX8_invaders_r2 : List Cond := [Cond.instanceMethod yX8_plays, Cond.selects RX8 yX8_plays yX8_plays, Cond.code yX8_plays cX8_plays 6 none, Cond.fieldLink RX8 41 "AgainAgainModel" "seenAt" "[I", Cond.fieldLink RX8 38 "AgainAgainModel" "row" "[I", Cond.fieldLink RX8 101 "AgainAgainModel" "tail" "I", Cond.fieldLink RX8 104 "AgainAgainModel" "ring" "I", Cond.methodLink RX8 94 yX8_payOf, Cond.instanceMethod yX8_payOf, Cond.selects RX8 yX8_payOf yX8_payOf, Cond.code yX8_payOf cX8_payOf 4 (some .int), Cond.fieldLink RX8 7 "AgainAgainModel" "pays" "[I", Cond.methodLink RX8 83 yX8_mine, Cond.instanceMethod yX8_mine, Cond.selects RX8 yX8_mine yX8_mine, Cond.code yX8_mine cX8_mine 3 (some .int), Cond.fieldLink RX8 23 "AgainAgainModel" "acts" "[I", Cond.methodLink RX8 87 yX8_theirs, Cond.instanceMethod yX8_theirs, Cond.selects RX8 yX8_theirs yX8_theirs, Cond.code yX8_theirs cX8_theirs 3 (some .int), Cond.methodLink RX8 98 yX8_next, Cond.instanceMethod yX8_next, Cond.selects RX8 yX8_next yX8_next]
def wsX8_invaders_r3 : List Cond := [Cond.code yX8_next cX8_next 4 (some .int), Cond.methodLink RX8 90 yX8_after, Cond.instanceMethod yX8_after, Cond.selects RX8 yX8_after yX8_after, Cond.code yX8_after cX8_after 6 (some .int), Cond.fieldLink RX8 26 "AgainAgainModel" "nexts" "[I", Cond.methodLink RX8 144 yX8_worthOfRow, Cond.instanceMethod yX8_worthOfRow, Cond.selects RX8 yX8_worthOfRow yX8_worthOfRow, Cond.code yX8_worthOfRow cX8_worthOfRow 7 none, Cond.fieldLink RX8 13 "AgainAgainModel" "up" "I", Cond.fieldLink RX8 17 "AgainAgainModel" "by" "I", Cond.methodLink RX8 130 yX8_power, Cond.static yX8_power, Cond.code yX8_power cX8_power 6 (some .long), Cond.methodLink RX8 134 yX8_lowest, Cond.instanceMethod yX8_lowest, Cond.selects RX8 yX8_lowest yX8_lowest, Cond.code yX8_lowest cX8_lowest 11 none]
def wsX8_invaders : List Cond := .code yX8_invaders cX8_invaders 4 (some .int) :: ((wsX8_invaders_r1 ++ (wsX8_invaders_r2 ++ wsX8_invaders_r3)) ++ wsX80)
def wsX8_scoreOf_r1 : List Cond := [Cond.fieldLink RX8 63 "AgainAgainModel" "machines" "I", Cond.methodLink RX8 120 yX8_sumUp, Cond.instanceMethod yX8_sumUp, Cond.selects RX8 yX8_sumUp yX8_sumUp, Cond.initialized RX8, Cond.code yX8_sumUp cX8_sumUp 7 (some .int), Cond.methodLink RX8 94 yX8_payOf, Cond.instanceMethod yX8_payOf, Cond.selects RX8 yX8_payOf yX8_payOf, Cond.code yX8_payOf cX8_payOf 4 (some .int), Cond.fieldLink RX8 7 "AgainAgainModel" "pays" "[I", Cond.methodLink RX8 83 yX8_mine, Cond.instanceMethod yX8_mine, Cond.selects RX8 yX8_mine yX8_mine, Cond.code yX8_mine cX8_mine 3 (some .int), Cond.fieldLink RX8 23 "AgainAgainModel" "acts" "[I", Cond.methodLink RX8 87 yX8_theirs, Cond.instanceMethod yX8_theirs, Cond.selects RX8 yX8_theirs yX8_theirs, Cond.code yX8_theirs cX8_theirs 3 (some .int), Cond.methodLink RX8 98 yX8_next, Cond.instanceMethod yX8_next, Cond.selects RX8 yX8_next yX8_next, Cond.code yX8_next cX8_next 4 (some .int)]
def wsX8_scoreOf_r2 : List Cond := [Cond.methodLink RX8 90 yX8_after, Cond.instanceMethod yX8_after, Cond.selects RX8 yX8_after yX8_after, Cond.code yX8_after cX8_after 6 (some .int), Cond.fieldLink RX8 26 "AgainAgainModel" "nexts" "[I"]
def wsX8_scoreOf : List Cond := .code yX8_scoreOf cX8_scoreOf 5 (some .int) :: ((wsX8_scoreOf_r1 ++ wsX8_scoreOf_r2) ++ wsX80)
def wsX8_score_r1 : List Cond := [Cond.constantLong RX8 110 (1000), Cond.constant RX8 112 (-1000000), Cond.methodLink RX8 66 yX8_isMachine, Cond.instanceMethod yX8_isMachine, Cond.selects RX8 yX8_isMachine yX8_isMachine, Cond.initialized RX8, Cond.code yX8_isMachine cX8_isMachine 2 (some .boolean), Cond.fieldLink RX8 63 "AgainAgainModel" "machines" "I", Cond.methodLink RX8 53 yX8_in, Cond.static yX8_in, Cond.code yX8_in cX8_in 6 (some .boolean), Cond.methodLink RX8 197 yX8_scoreOf, Cond.instanceMethod yX8_scoreOf, Cond.selects RX8 yX8_scoreOf yX8_scoreOf, Cond.code yX8_scoreOf cX8_scoreOf 5 (some .int), Cond.methodLink RX8 120 yX8_sumUp, Cond.instanceMethod yX8_sumUp, Cond.selects RX8 yX8_sumUp yX8_sumUp, Cond.code yX8_sumUp cX8_sumUp 7 (some .int), Cond.methodLink RX8 94 yX8_payOf, Cond.instanceMethod yX8_payOf, Cond.selects RX8 yX8_payOf yX8_payOf, Cond.code yX8_payOf cX8_payOf 4 (some .int), Cond.fieldLink RX8 7 "AgainAgainModel" "pays" "[I"]
def wsX8_score_r2 : List Cond := [Cond.methodLink RX8 83 yX8_mine, Cond.instanceMethod yX8_mine, Cond.selects RX8 yX8_mine yX8_mine, Cond.code yX8_mine cX8_mine 3 (some .int), Cond.fieldLink RX8 23 "AgainAgainModel" "acts" "[I", Cond.methodLink RX8 87 yX8_theirs, Cond.instanceMethod yX8_theirs, Cond.selects RX8 yX8_theirs yX8_theirs, Cond.code yX8_theirs cX8_theirs 3 (some .int), Cond.methodLink RX8 98 yX8_next, Cond.instanceMethod yX8_next, Cond.selects RX8 yX8_next yX8_next, Cond.code yX8_next cX8_next 4 (some .int), Cond.methodLink RX8 90 yX8_after, Cond.instanceMethod yX8_after, Cond.selects RX8 yX8_after yX8_after, Cond.code yX8_after cX8_after 6 (some .int), Cond.fieldLink RX8 26 "AgainAgainModel" "nexts" "[I"]
def wsX8_score : List Cond := .code yX8_score cX8_score 3 (some .int) :: ((wsX8_score_r1 ++ wsX8_score_r2) ++ wsX80)
def wsX8_place_r1 : List Cond := [Cond.constantLong RX8 110 (1000), Cond.fieldLink RX8 63 "AgainAgainModel" "machines" "I", Cond.fieldLink RX8 48 "AgainAgainModel" "scores" "[I", Cond.methodLink RX8 53 yX8_in, Cond.static yX8_in, Cond.initialized RX8, Cond.code yX8_in cX8_in 6 (some .boolean), Cond.methodLink RX8 197 yX8_scoreOf, Cond.instanceMethod yX8_scoreOf, Cond.selects RX8 yX8_scoreOf yX8_scoreOf, Cond.code yX8_scoreOf cX8_scoreOf 5 (some .int), Cond.methodLink RX8 120 yX8_sumUp, Cond.instanceMethod yX8_sumUp, Cond.selects RX8 yX8_sumUp yX8_sumUp, Cond.code yX8_sumUp cX8_sumUp 7 (some .int), Cond.methodLink RX8 94 yX8_payOf, Cond.instanceMethod yX8_payOf, Cond.selects RX8 yX8_payOf yX8_payOf, Cond.code yX8_payOf cX8_payOf 4 (some .int), Cond.fieldLink RX8 7 "AgainAgainModel" "pays" "[I", Cond.methodLink RX8 83 yX8_mine, Cond.instanceMethod yX8_mine, Cond.selects RX8 yX8_mine yX8_mine, Cond.code yX8_mine cX8_mine 3 (some .int)]
def wsX8_place_r2 : List Cond := [Cond.fieldLink RX8 23 "AgainAgainModel" "acts" "[I", Cond.methodLink RX8 87 yX8_theirs, Cond.instanceMethod yX8_theirs, Cond.selects RX8 yX8_theirs yX8_theirs, Cond.code yX8_theirs cX8_theirs 3 (some .int), Cond.methodLink RX8 98 yX8_next, Cond.instanceMethod yX8_next, Cond.selects RX8 yX8_next yX8_next, Cond.code yX8_next cX8_next 4 (some .int), Cond.methodLink RX8 90 yX8_after, Cond.instanceMethod yX8_after, Cond.selects RX8 yX8_after yX8_after, Cond.code yX8_after cX8_after 6 (some .int), Cond.fieldLink RX8 26 "AgainAgainModel" "nexts" "[I"]
def wsX8_place : List Cond := .code yX8_place cX8_place 6 (some .int) :: ((wsX8_place_r1 ++ wsX8_place_r2) ++ wsX80)
def wsX8_count_r1 : List Cond := [Cond.fieldLink RX8 63 "AgainAgainModel" "machines" "I", Cond.fieldLink RX8 29 "AgainAgainModel" "lanes" "[I", Cond.fieldLink RX8 32 "AgainAgainModel" "sizes" "[I", Cond.methodLink RX8 156 yX8_areLike, Cond.instanceMethod yX8_areLike, Cond.selects RX8 yX8_areLike yX8_areLike, Cond.initialized RX8, Cond.code yX8_areLike cX8_areLike 3 (some .boolean), Cond.fieldLink RX8 44 "AgainAgainModel" "unlike" "[Z", Cond.methodLink RX8 152 yX8_findUnlike, Cond.instanceMethod yX8_findUnlike, Cond.selects RX8 yX8_findUnlike yX8_findUnlike, Cond.code yX8_findUnlike cX8_findUnlike 7 none, Cond.fieldLink RX8 20 "AgainAgainModel" "many" "[I", Cond.fieldLink RX8 23 "AgainAgainModel" "acts" "[I", Cond.fieldLink RX8 26 "AgainAgainModel" "nexts" "[I", Cond.methodLink RX8 184 yX8_rests, Cond.instanceMethod yX8_rests, Cond.selects RX8 yX8_rests yX8_rests, Cond.code yX8_rests cX8_rests 4 (some .boolean), Cond.methodLink RX8 177 yX8_isBest, Cond.instanceMethod yX8_isBest, Cond.selects RX8 yX8_isBest yX8_isBest, Cond.code yX8_isBest cX8_isBest 4 (some .boolean)]
def wsX8_count_r2 : List Cond := [Cond.fieldLink RX8 123 "AgainAgainModel" "over" "J", Cond.fieldLink RX8 171 "AgainAgainModel" "bestOver" "J", Cond.fieldLink RX8 127 "AgainAgainModel" "under" "J", Cond.fieldLink RX8 168 "AgainAgainModel" "bestUnder" "J", Cond.methodLink RX8 174 yX8_findBest, Cond.instanceMethod yX8_findBest, Cond.selects RX8 yX8_findBest yX8_findBest, Cond.code yX8_findBest cX8_findBest 4 none, Cond.fieldLink RX8 159 "AgainAgainModel" "bestPlan" "I", Cond.methodLink RX8 162 yX8_plans, Cond.instanceMethod yX8_plans, Cond.selects RX8 yX8_plans yX8_plans, Cond.code yX8_plans cX8_plans 2 (some .int), Cond.constantLong RX8 74 (3), Cond.methodLink RX8 130 yX8_power, Cond.static yX8_power, Cond.code yX8_power cX8_power 6 (some .long), Cond.methodLink RX8 165 yX8_findPlanWorth, Cond.instanceMethod yX8_findPlanWorth, Cond.selects RX8 yX8_findPlanWorth yX8_findPlanWorth, Cond.code yX8_findPlanWorth cX8_findPlanWorth 7 none, Cond.fieldLink RX8 41 "AgainAgainModel" "seenAt" "[I", Cond.fieldLink RX8 38 "AgainAgainModel" "row" "[I", Cond.fieldLink RX8 7 "AgainAgainModel" "pays" "[I"]
def wsX8_count_r3 : List Cond := [Cond.fieldLink RX8 101 "AgainAgainModel" "tail" "I", Cond.fieldLink RX8 104 "AgainAgainModel" "ring" "I", Cond.methodLink RX8 144 yX8_worthOfRow, Cond.instanceMethod yX8_worthOfRow, Cond.selects RX8 yX8_worthOfRow yX8_worthOfRow, Cond.code yX8_worthOfRow cX8_worthOfRow 7 none, Cond.fieldLink RX8 13 "AgainAgainModel" "up" "I", Cond.fieldLink RX8 17 "AgainAgainModel" "by" "I", Cond.methodLink RX8 134 yX8_lowest, Cond.instanceMethod yX8_lowest, Cond.selects RX8 yX8_lowest yX8_lowest, Cond.code yX8_lowest cX8_lowest 11 none, Cond.methodLink RX8 147 yX8_findWorth, Cond.instanceMethod yX8_findWorth, Cond.selects RX8 yX8_findWorth yX8_findWorth, Cond.code yX8_findWorth cX8_findWorth 4 none, Cond.methodLink RX8 113 yX8_plays, Cond.instanceMethod yX8_plays, Cond.selects RX8 yX8_plays yX8_plays, Cond.code yX8_plays cX8_plays 6 none, Cond.methodLink RX8 94 yX8_payOf, Cond.instanceMethod yX8_payOf, Cond.selects RX8 yX8_payOf yX8_payOf, Cond.code yX8_payOf cX8_payOf 4 (some .int)]
def wsX8_count_r4 : List Cond := [Cond.methodLink RX8 83 yX8_mine, Cond.instanceMethod yX8_mine, Cond.selects RX8 yX8_mine yX8_mine, Cond.code yX8_mine cX8_mine 3 (some .int), Cond.methodLink RX8 87 yX8_theirs, Cond.instanceMethod yX8_theirs, Cond.selects RX8 yX8_theirs yX8_theirs, Cond.code yX8_theirs cX8_theirs 3 (some .int), Cond.methodLink RX8 98 yX8_next, Cond.instanceMethod yX8_next, Cond.selects RX8 yX8_next yX8_next, Cond.code yX8_next cX8_next 4 (some .int), Cond.methodLink RX8 90 yX8_after, Cond.instanceMethod yX8_after, Cond.selects RX8 yX8_after yX8_after, Cond.code yX8_after cX8_after 6 (some .int), Cond.methodLink RX8 181 yX8_turned, Cond.static yX8_turned, Cond.code yX8_turned cX8_turned 1 (some .int)]
def wsX8_count : List Cond := .code yX8_count cX8_count 6 (some .int) :: ((wsX8_count_r1 ++ (wsX8_count_r2 ++ (wsX8_count_r3 ++ wsX8_count_r4))) ++ wsX80)
def wsJ9_abs_067f4 : List Cond := .code yJ9_abs_067f4 cJ9_abs_067f4 2 (some .long) :: ([])
def wsL_law_r1 : List Cond := [Cond.classLink RL 7 RX7, Cond.instantiable RX7 10, Cond.initialized RX7, Cond.classLink RL 10 RX8, Cond.instantiable RX8 21, Cond.initialized RX8, Cond.methodLink RL 9 yX7_init, Cond.instanceMethod yX7_init, Cond.code yX7_init cX7_init 1 none, Cond.methodLink RX7 3 objectInit, Cond.instanceMethod objectInit, Cond.code objectInit ⟨#[0xb1]⟩ 1 none, Cond.classLink RX7 1 RX0, Cond.instantiable RX0 3, Cond.initialized RX0, Cond.fieldLink RX7 10 "AgainAgain" "game" "LAgainAgain$Game;", Cond.classLink RX7 16 RX2, Cond.instantiable RX2 4, Cond.initialized RX2, Cond.fieldLink RX7 19 "AgainAgain" "machines" "LAgainAgain$Machines;", Cond.classLink RX7 23 RX5, Cond.instantiable RX5 3, Cond.initialized RX5, Cond.fieldLink RX7 26 "AgainAgain" "sheets" "LAgainAgain$Sheets;"]
def wsL_law_r2 : List Cond := [Cond.classLink RX7 30 RX1, Cond.instantiable RX1 1, Cond.initialized RX1, Cond.fieldLink RX7 33 "AgainAgain" "likeness" "LAgainAgain$Likeness;", Cond.classLink RX7 37 RX3, Cond.instantiable RX3 5, Cond.initialized RX3, Cond.fieldLink RX7 40 "AgainAgain" "plans" "LAgainAgain$Plans;", Cond.classLink RX7 44 RX6, Cond.instantiable RX6 6, Cond.initialized RX6, Cond.fieldLink RX7 47 "AgainAgain" "walk" "LAgainAgain$Walk;", Cond.fieldLink RX7 51 "AgainAgain" "back" "LAgainAgain$Walk;", Cond.classLink RX7 54 RX4, Cond.instantiable RX4 2, Cond.initialized RX4, Cond.fieldLink RX7 57 "AgainAgain" "ratio" "LAgainAgain$Ratio;", Cond.fieldLink RX7 61 "AgainAgain" "other" "LAgainAgain$Ratio;", Cond.arrayClass .int, Cond.fieldLink RX7 64 "AgainAgain" "scores" "[I", Cond.instanceMethod yX0_init, Cond.code yX0_init cX0_init 1 none, Cond.methodLink RX0 1 objectInit, Cond.fieldLink RX0 9 "AgainAgain$Game" "gains" "[I"]
def wsL_law_r3 : List Cond := [Cond.fieldLink RX0 13 "AgainAgain$Game" "over" "J", Cond.constantLong RX0 17 (2), Cond.fieldLink RX0 19 "AgainAgain$Game" "under" "J", Cond.instanceMethod yX2_init, Cond.code yX2_init cX2_init 1 none, Cond.methodLink RX2 1 objectInit, Cond.fieldLink RX2 9 "AgainAgain$Machines" "sizes" "[I", Cond.fieldLink RX2 13 "AgainAgain$Machines" "actions" "[I", Cond.fieldLink RX2 18 "AgainAgain$Machines" "nexts" "[I", Cond.fieldLink RX2 21 "AgainAgain$Machines" "many" "I", Cond.methodLink RX7 25 yX5_init, Cond.instanceMethod yX5_init, Cond.code yX5_init cX5_init 1 none, Cond.methodLink RX5 1 objectInit, Cond.fieldLink RX5 9 "AgainAgain$Sheets" "lanes" "[I", Cond.fieldLink RX5 13 "AgainAgain$Sheets" "sizes" "[I", Cond.fieldLink RX5 16 "AgainAgain$Sheets" "cells" "[I", Cond.methodLink RX5 19 yJ7_fill_53178, Cond.static yJ7_fill_53178, Cond.initialized RJ7, Cond.code yJ7_fill_53178 cJ7_fill_53178 4 none, Cond.instanceMethod yX1_init, Cond.code yX1_init cX1_init 1 none, Cond.methodLink RX1 1 objectInit]
def wsL_law_r4 : List Cond := [Cond.fieldLink RX1 9 "AgainAgain$Likeness" "pairs" "[I", Cond.instanceMethod yX3_init, Cond.code yX3_init cX3_init 1 none, Cond.methodLink RX3 3 objectInit, Cond.fieldLink RX3 11 "AgainAgain$Plans" "plans" "[I", Cond.arrayClass .long, Cond.fieldLink RX3 15 "AgainAgain$Plans" "tops" "[J", Cond.fieldLink RX3 19 "AgainAgain$Plans" "bottoms" "[J", Cond.classLink RX3 22 RX6, Cond.fieldLink RX3 25 "AgainAgain$Plans" "walk" "LAgainAgain$Walk;", Cond.classLink RX3 29 RX4, Cond.fieldLink RX3 32 "AgainAgain$Plans" "tried" "LAgainAgain$Ratio;", Cond.instanceMethod yX6_init, Cond.code yX6_init cX6_init 1 none, Cond.methodLink RX6 5 objectInit, Cond.fieldLink RX6 11 "AgainAgain$Walk" "nexts" "[I", Cond.fieldLink RX6 15 "AgainAgain$Walk" "gains" "[I", Cond.fieldLink RX6 18 "AgainAgain$Walk" "firstMet" "[I", Cond.fieldLink RX6 21 "AgainAgain$Walk" "path" "[I", Cond.fieldLink RX6 24 "AgainAgain$Walk" "tail" "I", Cond.fieldLink RX6 28 "AgainAgain$Walk" "ring" "I", Cond.instanceMethod yX4_init, Cond.code yX4_init cX4_init 1 none, Cond.methodLink RX4 1 objectInit]
def wsL_law_r5 : List Cond := [Cond.fieldLink RX4 7 "AgainAgain$Ratio" "top" "J", Cond.fieldLink RX4 13 "AgainAgain$Ratio" "bottom" "J", Cond.methodLink RL 12 yX8_init, Cond.instanceMethod yX8_init, Cond.code yX8_init cX8_init 2 none, Cond.methodLink RX8 1 objectInit, Cond.fieldLink RX8 7 "AgainAgainModel" "pays" "[I", Cond.fieldLink RX8 13 "AgainAgainModel" "up" "I", Cond.fieldLink RX8 17 "AgainAgainModel" "by" "I", Cond.fieldLink RX8 20 "AgainAgainModel" "many" "[I", Cond.fieldLink RX8 23 "AgainAgainModel" "acts" "[I", Cond.fieldLink RX8 26 "AgainAgainModel" "nexts" "[I", Cond.fieldLink RX8 29 "AgainAgainModel" "lanes" "[I", Cond.fieldLink RX8 32 "AgainAgainModel" "sizes" "[I", Cond.fieldLink RX8 35 "AgainAgainModel" "cells" "[I", Cond.fieldLink RX8 38 "AgainAgainModel" "row" "[I", Cond.fieldLink RX8 41 "AgainAgainModel" "seenAt" "[I", Cond.arrayClass .boolean, Cond.fieldLink RX8 44 "AgainAgainModel" "unlike" "[Z", Cond.fieldLink RX8 48 "AgainAgainModel" "scores" "[I", Cond.methodLink RL 13 yX7_pay, Cond.instanceMethod yX7_pay, Cond.selects RX7 yX7_pay yX7_pay, Cond.code yX7_pay cX7_pay 4 (some .int)]
def wsL_law_r6 : List Cond := [Cond.methodLink RX7 68 yX7_isAction, Cond.static yX7_isAction, Cond.code yX7_isAction cX7_isAction 1 (some .boolean), Cond.methodLink RX7 72 yX7_within, Cond.static yX7_within, Cond.code yX7_within cX7_within 3 (some .boolean), Cond.methodLink RX7 76 yX0_setGain, Cond.instanceMethod yX0_setGain, Cond.selects RX0 yX0_setGain yX0_setGain, Cond.code yX0_setGain cX0_setGain 4 none, Cond.methodLink RL 17 yX8_pay, Cond.instanceMethod yX8_pay, Cond.selects RX8 yX8_pay yX8_pay, Cond.code yX8_pay cX8_pay 4 (some .int), Cond.constantLong RX8 51 (2), Cond.constantLong RX8 57 (-50), Cond.constantLong RX8 59 (50), Cond.methodLink RX8 53 yX8_in, Cond.static yX8_in, Cond.code yX8_in cX8_in 6 (some .boolean), Cond.methodLink RL 18 yX7_discount, Cond.instanceMethod yX7_discount, Cond.selects RX7 yX7_discount yX7_discount, Cond.code yX7_discount cX7_discount 3 (some .int)]
def wsL_law_r7 : List Cond := [Cond.methodLink RX7 80 yX0_setRate, Cond.instanceMethod yX0_setRate, Cond.selects RX0 yX0_setRate yX0_setRate, Cond.code yX0_setRate cX0_setRate 3 none, Cond.methodLink RL 22 yX8_discount, Cond.instanceMethod yX8_discount, Cond.selects RX8 yX8_discount yX8_discount, Cond.code yX8_discount cX8_discount 3 (some .int), Cond.constantLong RX8 61 (4), Cond.methodLink RL 23 yX7_machine, Cond.instanceMethod yX7_machine, Cond.selects RX7 yX7_machine yX7_machine, Cond.code yX7_machine cX7_machine 2 (some .int), Cond.methodLink RX7 84 yX2_isFull, Cond.instanceMethod yX2_isFull, Cond.selects RX2 yX2_isFull yX2_isFull, Cond.code yX2_isFull cX2_isFull 1 (some .boolean), Cond.methodLink RX7 88 yX2_add, Cond.instanceMethod yX2_add, Cond.selects RX2 yX2_add yX2_add, Cond.code yX2_add cX2_add 5 (some .int), Cond.methodLink RX2 29 yX2_setAction, Cond.instanceMethod yX2_setAction, Cond.selects RX2 yX2_setAction yX2_setAction]
def wsL_law_r8 : List Cond := [Cond.code yX2_setAction cX2_setAction 4 none, Cond.methodLink RX2 33 yX2_setNext, Cond.instanceMethod yX2_setNext, Cond.selects RX2 yX2_setNext yX2_setNext, Cond.code yX2_setNext cX2_setNext 5 none, Cond.methodLink RL 27 yX8_machine, Cond.instanceMethod yX8_machine, Cond.selects RX8 yX8_machine yX8_machine, Cond.code yX8_machine cX8_machine 4 (some .int), Cond.fieldLink RX8 63 "AgainAgainModel" "machines" "I", Cond.methodLink RL 28 yX7_does, Cond.instanceMethod yX7_does, Cond.selects RX7 yX7_does yX7_does, Cond.code yX7_does cX7_does 4 (some .int), Cond.methodLink RX7 92 yX2_hasState, Cond.instanceMethod yX2_hasState, Cond.selects RX2 yX2_hasState yX2_hasState, Cond.code yX2_hasState cX2_hasState 3 (some .boolean), Cond.methodLink RX2 25 yX2_has, Cond.instanceMethod yX2_has, Cond.selects RX2 yX2_has yX2_has, Cond.code yX2_has cX2_has 2 (some .boolean), Cond.methodLink RX7 96 yX2_setAction, Cond.methodLink RL 31 yX8_does]
def wsL_law_r9 : List Cond := [Cond.instanceMethod yX8_does, Cond.selects RX8 yX8_does yX8_does, Cond.code yX8_does cX8_does 4 (some .int), Cond.methodLink RX8 70 yX8_isState, Cond.instanceMethod yX8_isState, Cond.selects RX8 yX8_isState yX8_isState, Cond.code yX8_isState cX8_isState 3 (some .boolean), Cond.methodLink RX8 66 yX8_isMachine, Cond.instanceMethod yX8_isMachine, Cond.selects RX8 yX8_isMachine yX8_isMachine, Cond.code yX8_isMachine cX8_isMachine 2 (some .boolean), Cond.methodLink RL 32 yX7_goes, Cond.instanceMethod yX7_goes, Cond.selects RX7 yX7_goes yX7_goes, Cond.code yX7_goes cX7_goes 5 (some .int), Cond.methodLink RX7 99 yX2_setNext, Cond.methodLink RL 36 yX8_goes, Cond.instanceMethod yX8_goes, Cond.selects RX8 yX8_goes yX8_goes, Cond.code yX8_goes cX8_goes 5 (some .int), Cond.methodLink RL 37 yX7_told, Cond.instanceMethod yX7_told, Cond.selects RX7 yX7_told yX7_told, Cond.code yX7_told cX7_told 4 (some .int)]
def wsL_law_r10 : List Cond := [Cond.methodLink RX7 103 yX2_actionOf, Cond.instanceMethod yX2_actionOf, Cond.selects RX2 yX2_actionOf yX2_actionOf, Cond.code yX2_actionOf cX2_actionOf 3 (some .int), Cond.methodLink RX7 107 yX2_nextOf, Cond.instanceMethod yX2_nextOf, Cond.selects RX2 yX2_nextOf yX2_nextOf, Cond.code yX2_nextOf cX2_nextOf 4 (some .int), Cond.methodLink RL 40 yX8_told, Cond.instanceMethod yX8_told, Cond.selects RX8 yX8_told yX8_told, Cond.code yX8_told cX8_told 4 (some .int), Cond.constantLong RX8 74 (3), Cond.methodLink RL 41 yX7_drop, Cond.instanceMethod yX7_drop, Cond.selects RX7 yX7_drop yX7_drop, Cond.code yX7_drop cX7_drop 1 (some .int), Cond.methodLink RX7 111 yX2_many, Cond.instanceMethod yX2_many, Cond.selects RX2 yX2_many yX2_many, Cond.code yX2_many cX2_many 1 (some .int), Cond.methodLink RX7 115 yX2_removeLatest, Cond.instanceMethod yX2_removeLatest, Cond.selects RX2 yX2_removeLatest yX2_removeLatest]
def wsL_law_r11 : List Cond := [Cond.code yX2_removeLatest cX2_removeLatest 1 (some .int), Cond.methodLink RL 45 yX8_drop, Cond.instanceMethod yX8_drop, Cond.selects RX8 yX8_drop yX8_drop, Cond.code yX8_drop cX8_drop 1 (some .int), Cond.methodLink RL 46 yX7_sheet, Cond.instanceMethod yX7_sheet, Cond.selects RX7 yX7_sheet yX7_sheet, Cond.code yX7_sheet cX7_sheet 4 (some .int), Cond.methodLink RX7 118 yX5_isSheet, Cond.static yX5_isSheet, Cond.code yX5_isSheet cX5_isSheet 1 (some .boolean), Cond.methodLink RX7 121 yX5_isLane, Cond.static yX5_isLane, Cond.code yX5_isLane cX5_isLane 1 (some .boolean), Cond.methodLink RX7 124 yX5_layOut, Cond.instanceMethod yX5_layOut, Cond.selects RX5 yX5_layOut yX5_layOut, Cond.code yX5_layOut cX5_layOut 4 none, Cond.methodLink RX5 25 yJ7_fill_fda19, Cond.static yJ7_fill_fda19, Cond.code yJ7_fill_fda19 cJ7_fill_fda19 5 none, Cond.methodLink RJ7 13 yJ7_rangeCheck_23922, Cond.static yJ7_rangeCheck_23922]
def wsL_law_r12 : List Cond := [Cond.code yJ7_rangeCheck_23922 cJ7_rangeCheck_23922 3 none, Cond.methodLink RL 49 yX8_sheet, Cond.instanceMethod yX8_sheet, Cond.selects RX8 yX8_sheet yX8_sheet, Cond.code yX8_sheet cX8_sheet 5 (some .int), Cond.methodLink RX8 76 yX8_isSheet, Cond.static yX8_isSheet, Cond.code yX8_isSheet cX8_isSheet 2 (some .boolean), Cond.methodLink RL 50 yX7_lay, Cond.instanceMethod yX7_lay, Cond.selects RX7 yX7_lay yX7_lay, Cond.code yX7_lay cX7_lay 4 (some .int), Cond.methodLink RX7 127 yX5_isThere, Cond.instanceMethod yX5_isThere, Cond.selects RX5 yX5_isThere yX5_isThere, Cond.code yX5_isThere cX5_isThere 2 (some .boolean), Cond.methodLink RX7 130 yX5_hasCell, Cond.instanceMethod yX5_hasCell, Cond.selects RX5 yX5_hasCell yX5_hasCell, Cond.code yX5_hasCell cX5_hasCell 3 (some .boolean), Cond.methodLink RX7 133 yX5_setCell, Cond.instanceMethod yX5_setCell, Cond.selects RX5 yX5_setCell yX5_setCell, Cond.code yX5_setCell cX5_setCell 4 none]
def wsL_law_r13 : List Cond := [Cond.methodLink RX5 28 yX5_lowestBits, Cond.static yX5_lowestBits, Cond.code yX5_lowestBits cX5_lowestBits 2 (some .int), Cond.methodLink RL 53 yX8_lay, Cond.instanceMethod yX8_lay, Cond.selects RX8 yX8_lay yX8_lay, Cond.code yX8_lay cX8_lay 4 (some .int), Cond.methodLink RL 54 yX7_draw, Cond.instanceMethod yX7_draw, Cond.selects RX7 yX7_draw yX7_draw, Cond.code yX7_draw cX7_draw 6 (some .int), Cond.methodLink RX7 136 yX5_laneOf, Cond.instanceMethod yX5_laneOf, Cond.selects RX5 yX5_laneOf yX5_laneOf, Cond.code yX5_laneOf cX5_laneOf 2 (some .int), Cond.methodLink RX7 139 yX7_cellFault, Cond.instanceMethod yX7_cellFault, Cond.selects RX7 yX7_cellFault yX7_cellFault, Cond.code yX7_cellFault cX7_cellFault 6 (some .int), Cond.methodLink RX7 269 yX5_cell, Cond.instanceMethod yX5_cell, Cond.selects RX5 yX5_cell yX5_cell, Cond.code yX5_cell cX5_cell 3 (some .int), Cond.methodLink RX7 142 yX7_readMachine]
def wsL_law_r14 : List Cond := [Cond.instanceMethod yX7_readMachine, Cond.selects RX7 yX7_readMachine yX7_readMachine, Cond.code yX7_readMachine cX7_readMachine 8 (some .int), Cond.methodLink RL 57 yX8_draw, Cond.instanceMethod yX8_draw, Cond.selects RX8 yX8_draw yX8_draw, Cond.code yX8_draw cX8_draw 8 (some .int), Cond.methodLink RX8 79 yX8_machine, Cond.methodLink RL 58 yX7_action, Cond.instanceMethod yX7_action, Cond.selects RX7 yX7_action yX7_action, Cond.code yX7_action cX7_action 4 (some .int), Cond.methodLink RX7 145 yX7_areMachines, Cond.instanceMethod yX7_areMachines, Cond.selects RX7 yX7_areMachines yX7_areMachines, Cond.code yX7_areMachines cX7_areMachines 3 (some .boolean), Cond.methodLink RX7 201 yX2_has, Cond.methodLink RX7 148 yX7_playOut, Cond.instanceMethod yX7_playOut, Cond.selects RX7 yX7_playOut yX7_playOut, Cond.code yX7_playOut cX7_playOut 3 none, Cond.methodLink RX7 272 yX6_takeMatch, Cond.instanceMethod yX6_takeMatch, Cond.selects RX6 yX6_takeMatch yX6_takeMatch]
def wsL_law_r15 : List Cond := [Cond.code yX6_takeMatch cX6_takeMatch 9 none, Cond.methodLink RX6 31 yX2_statesOf, Cond.instanceMethod yX2_statesOf, Cond.selects RX2 yX2_statesOf yX2_statesOf, Cond.code yX2_statesOf cX2_statesOf 2 (some .int), Cond.methodLink RX6 35 yX2_actionOf, Cond.methodLink RX6 39 yX6_placeOf, Cond.static yX6_placeOf, Cond.code yX6_placeOf cX6_placeOf 2 (some .int), Cond.methodLink RX6 42 yX2_nextOf, Cond.methodLink RX6 46 yX0_gain, Cond.instanceMethod yX0_gain, Cond.selects RX0 yX0_gain yX0_gain, Cond.code yX0_gain cX0_gain 3 (some .int), Cond.methodLink RX7 275 yX6_startAt, Cond.instanceMethod yX6_startAt, Cond.selects RX6 yX6_startAt yX6_startAt, Cond.code yX6_startAt cX6_startAt 4 none, Cond.methodLink RX6 51 yJ7_fill_53178, Cond.methodLink RX7 151 yX6_placeIn, Cond.instanceMethod yX6_placeIn, Cond.selects RX6 yX6_placeIn yX6_placeIn, Cond.code yX6_placeIn cX6_placeIn 2 (some .int), Cond.methodLink RX7 154 yX6_mine]
def wsL_law_r16 : List Cond := [Cond.static yX6_mine, Cond.code yX6_mine cX6_mine 1 (some .int), Cond.methodLink RL 61 yX8_action, Cond.instanceMethod yX8_action, Cond.selects RX8 yX8_action yX8_action, Cond.code yX8_action cX8_action 6 (some .int), Cond.constantLong RX8 110 (1000), Cond.methodLink RX8 107 yX8_areBoth, Cond.instanceMethod yX8_areBoth, Cond.selects RX8 yX8_areBoth yX8_areBoth, Cond.code yX8_areBoth cX8_areBoth 3 (some .boolean), Cond.methodLink RX8 98 yX8_next, Cond.instanceMethod yX8_next, Cond.selects RX8 yX8_next yX8_next, Cond.code yX8_next cX8_next 4 (some .int), Cond.methodLink RX8 83 yX8_mine, Cond.instanceMethod yX8_mine, Cond.selects RX8 yX8_mine yX8_mine, Cond.code yX8_mine cX8_mine 3 (some .int), Cond.methodLink RX8 87 yX8_theirs, Cond.instanceMethod yX8_theirs, Cond.selects RX8 yX8_theirs yX8_theirs, Cond.code yX8_theirs cX8_theirs 3 (some .int), Cond.methodLink RX8 90 yX8_after]
def wsL_law_r17 : List Cond := [Cond.instanceMethod yX8_after, Cond.selects RX8 yX8_after yX8_after, Cond.code yX8_after cX8_after 6 (some .int), Cond.methodLink RL 62 yX7_match, Cond.instanceMethod yX7_match, Cond.selects RX7 yX7_match yX7_match, Cond.code yX7_match cX7_match 4 (some .int), Cond.constant RX7 157 (-1000000), Cond.methodLink RX7 158 yX6_tail, Cond.instanceMethod yX6_tail, Cond.selects RX6 yX6_tail yX6_tail, Cond.code yX6_tail cX6_tail 1 (some .int), Cond.methodLink RX7 161 yX6_ring, Cond.instanceMethod yX6_ring, Cond.selects RX6 yX6_ring yX6_ring, Cond.code yX6_ring cX6_ring 1 (some .int), Cond.methodLink RX7 164 yX6_tailGains, Cond.instanceMethod yX6_tailGains, Cond.selects RX6 yX6_tailGains yX6_tailGains, Cond.code yX6_tailGains cX6_tailGains 1 (some .int), Cond.methodLink RX6 57 yX6_gainsAlong, Cond.instanceMethod yX6_gainsAlong, Cond.selects RX6 yX6_gainsAlong yX6_gainsAlong, Cond.code yX6_gainsAlong cX6_gainsAlong 5 (some .int)]
def wsL_law_r18 : List Cond := [Cond.methodLink RX7 167 yX6_ringGains, Cond.instanceMethod yX6_ringGains, Cond.selects RX6 yX6_ringGains yX6_ringGains, Cond.code yX6_ringGains cX6_ringGains 1 (some .int), Cond.methodLink RL 65 yX8_match, Cond.instanceMethod yX8_match, Cond.selects RX8 yX8_match yX8_match, Cond.code yX8_match cX8_match 4 (some .int), Cond.constant RX8 112 (-1000000), Cond.fieldLink RX8 101 "AgainAgainModel" "tail" "I", Cond.fieldLink RX8 104 "AgainAgainModel" "ring" "I", Cond.methodLink RX8 113 yX8_plays, Cond.instanceMethod yX8_plays, Cond.selects RX8 yX8_plays yX8_plays, Cond.code yX8_plays cX8_plays 6 none, Cond.methodLink RX8 94 yX8_payOf, Cond.instanceMethod yX8_payOf, Cond.selects RX8 yX8_payOf yX8_payOf, Cond.code yX8_payOf cX8_payOf 4 (some .int), Cond.methodLink RX8 117 yX8_sumOf, Cond.instanceMethod yX8_sumOf, Cond.selects RX8 yX8_sumOf yX8_sumOf, Cond.code yX8_sumOf cX8_sumOf 5 (some .int), Cond.methodLink RL 66 yX7_sum]
def wsL_law_r19 : List Cond := [Cond.instanceMethod yX7_sum, Cond.selects RX7 yX7_sum yX7_sum, Cond.code yX7_sum cX7_sum 4 (some .int), Cond.methodLink RX7 170 yX7_gainsOf, Cond.instanceMethod yX7_gainsOf, Cond.selects RX7 yX7_gainsOf yX7_gainsOf, Cond.code yX7_gainsOf cX7_gainsOf 4 (some .int), Cond.methodLink RX7 279 yX6_gainsOfFirst, Cond.instanceMethod yX6_gainsOfFirst, Cond.selects RX6 yX6_gainsOfFirst yX6_gainsOfFirst, Cond.code yX6_gainsOfFirst cX6_gainsOfFirst 3 (some .int), Cond.methodLink RX6 60 yX6_tailGains, Cond.methodLink RX6 64 yX6_ringGains, Cond.methodLink RL 69 yX8_sum, Cond.instanceMethod yX8_sum, Cond.selects RX8 yX8_sum yX8_sum, Cond.code yX8_sum cX8_sum 4 (some .int), Cond.methodLink RX8 120 yX8_sumUp, Cond.instanceMethod yX8_sumUp, Cond.selects RX8 yX8_sumUp yX8_sumUp, Cond.code yX8_sumUp cX8_sumUp 7 (some .int), Cond.methodLink RL 70 yX7_mean, Cond.instanceMethod yX7_mean, Cond.selects RX7 yX7_mean yX7_mean]
def wsL_law_r20 : List Cond := [Cond.code yX7_mean cX7_mean 4 (some .long), Cond.constantLong RX7 173 (-1000000000000000), Cond.methodLink RX7 175 yX4_become, Cond.instanceMethod yX4_become, Cond.selects RX4 yX4_become yX4_become, Cond.code yX4_become cX4_become 7 none, Cond.methodLink RX4 16 Lib.MathLoose.abs_long.x, Cond.static Lib.MathLoose.abs_long.x, Cond.initialized "java/lang/Math", Cond.code Lib.MathLoose.abs_long.x Lib.MathLoose.abs_long.code 2 (some .long), Cond.methodLink RX4 22 yX4_greatestShared, Cond.static yX4_greatestShared, Cond.code yX4_greatestShared cX4_greatestShared 11 (some .long), Cond.methodLink RX7 179 yX4_part, Cond.instanceMethod yX4_part, Cond.selects RX4 yX4_part yX4_part, Cond.code yX4_part cX4_part 2 (some .long), Cond.methodLink RL 74 yX8_mean, Cond.instanceMethod yX8_mean, Cond.selects RX8 yX8_mean yX8_mean, Cond.code yX8_mean cX8_mean 4 (some .long), Cond.constantLong RX8 138 (-1000000000000000), Cond.methodLink RX8 134 yX8_lowest, Cond.instanceMethod yX8_lowest]
def wsL_law_r21 : List Cond := [Cond.selects RX8 yX8_lowest yX8_lowest, Cond.code yX8_lowest cX8_lowest 11 none, Cond.fieldLink RX8 123 "AgainAgainModel" "over" "J", Cond.fieldLink RX8 127 "AgainAgainModel" "under" "J", Cond.methodLink RX8 140 yX8_part, Cond.instanceMethod yX8_part, Cond.selects RX8 yX8_part yX8_part, Cond.code yX8_part cX8_part 2 (some .long), Cond.methodLink RL 75 yX7_worth, Cond.instanceMethod yX7_worth, Cond.selects RX7 yX7_worth yX7_worth, Cond.code yX7_worth cX7_worth 4 (some .long), Cond.methodLink RX7 183 yX7_matchWorth, Cond.instanceMethod yX7_matchWorth, Cond.selects RX7 yX7_matchWorth yX7_matchWorth, Cond.code yX7_matchWorth cX7_matchWorth 4 none, Cond.methodLink RX7 282 yX6_worthInto, Cond.instanceMethod yX6_worthInto, Cond.selects RX6 yX6_worthInto yX6_worthInto, Cond.code yX6_worthInto cX6_worthInto 11 none, Cond.methodLink RX6 67 yX0_rateOver, Cond.instanceMethod yX0_rateOver, Cond.selects RX0 yX0_rateOver yX0_rateOver, Cond.code yX0_rateOver cX0_rateOver 1 (some .long)]
def wsL_law_r22 : List Cond := [Cond.methodLink RX6 71 yX0_rateUnder, Cond.instanceMethod yX0_rateUnder, Cond.selects RX0 yX0_rateUnder yX0_rateUnder, Cond.code yX0_rateUnder cX0_rateUnder 1 (some .long), Cond.methodLink RX6 74 yX6_power, Cond.static yX6_power, Cond.code yX6_power cX6_power 6 (some .long), Cond.methodLink RX6 78 yX6_weighedAlong, Cond.instanceMethod yX6_weighedAlong, Cond.selects RX6 yX6_weighedAlong yX6_weighedAlong, Cond.code yX6_weighedAlong cX6_weighedAlong 12 (some .long), Cond.methodLink RX6 82 yX4_become, Cond.methodLink RL 78 yX8_worth, Cond.instanceMethod yX8_worth, Cond.selects RX8 yX8_worth yX8_worth, Cond.code yX8_worth cX8_worth 4 (some .long), Cond.methodLink RX8 147 yX8_findWorth, Cond.instanceMethod yX8_findWorth, Cond.selects RX8 yX8_findWorth yX8_findWorth, Cond.code yX8_findWorth cX8_findWorth 4 none, Cond.methodLink RX8 144 yX8_worthOfRow, Cond.instanceMethod yX8_worthOfRow, Cond.selects RX8 yX8_worthOfRow yX8_worthOfRow, Cond.code yX8_worthOfRow cX8_worthOfRow 7 none]
def wsL_law_r23 : List Cond := [Cond.methodLink RX8 130 yX8_power, Cond.static yX8_power, Cond.code yX8_power cX8_power 6 (some .long), Cond.methodLink RL 79 yX7_slip, Cond.instanceMethod yX7_slip, Cond.selects RX7 yX7_slip yX7_slip, Cond.code yX7_slip cX7_slip 5 (some .int), Cond.methodLink RX7 187 yX7_placeBehindSlip, Cond.instanceMethod yX7_placeBehindSlip, Cond.selects RX7 yX7_placeBehindSlip yX7_placeBehindSlip, Cond.code yX7_placeBehindSlip cX7_placeBehindSlip 7 (some .int), Cond.methodLink RX7 243 yX6_theirs, Cond.static yX6_theirs, Cond.code yX6_theirs cX6_theirs 1 (some .int), Cond.methodLink RX7 286 yX6_placeOf, Cond.methodLink RX7 190 yX6_meeting, Cond.instanceMethod yX6_meeting, Cond.selects RX6 yX6_meeting yX6_meeting, Cond.code yX6_meeting cX6_meeting 6 (some .int), Cond.methodLink RL 82 yX8_slip, Cond.instanceMethod yX8_slip, Cond.selects RX8 yX8_slip yX8_slip, Cond.code yX8_slip cX8_slip 7 (some .int), Cond.constantLong RX8 150 (100)]
def wsL_law_r24 : List Cond := [Cond.methodLink RL 83 yX7_like, Cond.instanceMethod yX7_like, Cond.selects RX7 yX7_like yX7_like, Cond.code yX7_like cX7_like 3 (some .int), Cond.methodLink RX7 193 yX1_areLike, Cond.instanceMethod yX1_areLike, Cond.selects RX1 yX1_areLike yX1_areLike, Cond.code yX1_areLike cX1_areLike 4 (some .boolean), Cond.methodLink RX1 15 yX1_statesLike, Cond.instanceMethod yX1_statesLike, Cond.selects RX1 yX1_statesLike yX1_statesLike, Cond.code yX1_statesLike cX1_statesLike 13 (some .boolean), Cond.methodLink RX1 55 yX6_placeOf, Cond.methodLink RX1 59 yX6_mine, Cond.methodLink RX1 62 yX6_theirs, Cond.methodLink RX1 65 yX2_actionOf, Cond.methodLink RX1 51 yX2_nextOf, Cond.methodLink RX1 41 yX1_holds, Cond.static yX1_holds, Cond.code yX1_holds cX1_holds 2 (some .boolean), Cond.methodLink RX7 197 yX7_oneIf, Cond.static yX7_oneIf, Cond.code yX7_oneIf cX7_oneIf 1 (some .int), Cond.methodLink RL 86 yX8_like]
def wsL_law_r25 : List Cond := [Cond.instanceMethod yX8_like, Cond.selects RX8 yX8_like yX8_like, Cond.code yX8_like cX8_like 3 (some .int), Cond.methodLink RX8 156 yX8_areLike, Cond.instanceMethod yX8_areLike, Cond.selects RX8 yX8_areLike yX8_areLike, Cond.code yX8_areLike cX8_areLike 3 (some .boolean), Cond.methodLink RX8 152 yX8_findUnlike, Cond.instanceMethod yX8_findUnlike, Cond.selects RX8 yX8_findUnlike yX8_findUnlike, Cond.code yX8_findUnlike cX8_findUnlike 7 none, Cond.methodLink RL 87 yX7_smallest, Cond.instanceMethod yX7_smallest, Cond.selects RX7 yX7_smallest yX7_smallest, Cond.code yX7_smallest cX7_smallest 2 (some .int), Cond.methodLink RX7 204 yX1_unlikeStates, Cond.instanceMethod yX1_unlikeStates, Cond.selects RX1 yX1_unlikeStates yX1_unlikeStates, Cond.code yX1_unlikeStates cX1_unlikeStates 6 (some .int), Cond.methodLink RX1 33 yX1_reachedStates, Cond.static yX1_reachedStates, Cond.code yX1_reachedStates cX1_reachedStates 6 (some .int), Cond.methodLink RX1 37 yX2_statesOf, Cond.methodLink RX1 45 yX1_isNewState]
def wsL_law_r26 : List Cond := [Cond.instanceMethod yX1_isNewState, Cond.selects RX1 yX1_isNewState yX1_isNewState, Cond.code yX1_isNewState cX1_isNewState 6 (some .boolean), Cond.methodLink RL 90 yX8_smallest, Cond.instanceMethod yX8_smallest, Cond.selects RX8 yX8_smallest yX8_smallest, Cond.code yX8_smallest cX8_smallest 7 (some .int), Cond.methodLink RL 91 yX7_best, Cond.instanceMethod yX7_best, Cond.selects RX7 yX7_best yX7_best, Cond.code yX7_best cX7_best 3 (some .int), Cond.methodLink RX7 208 yX3_learn, Cond.instanceMethod yX3_learn, Cond.selects RX3 yX3_learn yX3_learn, Cond.code yX3_learn cX3_learn 6 none, Cond.methodLink RX3 50 yX3_weigh, Cond.instanceMethod yX3_weigh, Cond.selects RX3 yX3_weigh yX3_weigh, Cond.code yX3_weigh cX3_weigh 7 none, Cond.methodLink RX3 38 yX6_takePlan, Cond.instanceMethod yX6_takePlan, Cond.selects RX6 yX6_takePlan yX6_takePlan, Cond.code yX6_takePlan cX6_takePlan 8 none, Cond.methodLink RX3 42 yX6_startAt]
def wsL_law_r27 : List Cond := [Cond.methodLink RX3 46 yX6_worthInto, Cond.methodLink RX3 54 yX3_slotOf, Cond.static yX3_slotOf, Cond.code yX3_slotOf cX3_slotOf 2 (some .int), Cond.methodLink RX3 58 yX3_keep, Cond.instanceMethod yX3_keep, Cond.selects RX3 yX3_keep yX3_keep, Cond.code yX3_keep cX3_keep 3 none, Cond.methodLink RX3 73 yX4_part, Cond.methodLink RX3 62 yX2_statesOf, Cond.methodLink RX3 66 yX3_plansAgainst, Cond.static yX3_plansAgainst, Cond.code yX3_plansAgainst cX3_plansAgainst 3 (some .int), Cond.methodLink RX3 69 yX3_bestCompared, Cond.instanceMethod yX3_bestCompared, Cond.selects RX3 yX3_bestCompared yX3_bestCompared, Cond.code yX3_bestCompared cX3_bestCompared 4 (some .int), Cond.methodLink RX3 80 yX4_compareWith, Cond.instanceMethod yX4_compareWith, Cond.selects RX4 yX4_compareWith yX4_compareWith, Cond.code yX4_compareWith cX4_compareWith 5 (some .int), Cond.methodLink RX4 26 yJ13_compare_74951, Cond.static yJ13_compare_74951, Cond.initialized RJ13]
def wsL_law_r28 : List Cond := [Cond.code yJ13_compare_74951 cJ13_compare_74951 4 (some .int), Cond.methodLink RX7 212 yX3_bestPlan, Cond.instanceMethod yX3_bestPlan, Cond.selects RX3 yX3_bestPlan yX3_bestPlan, Cond.code yX3_bestPlan cX3_bestPlan 3 (some .int), Cond.methodLink RL 94 yX8_best, Cond.instanceMethod yX8_best, Cond.selects RX8 yX8_best yX8_best, Cond.code yX8_best cX8_best 3 (some .int), Cond.fieldLink RX8 159 "AgainAgainModel" "bestPlan" "I", Cond.methodLink RX8 174 yX8_findBest, Cond.instanceMethod yX8_findBest, Cond.selects RX8 yX8_findBest yX8_findBest, Cond.code yX8_findBest cX8_findBest 4 none, Cond.fieldLink RX8 168 "AgainAgainModel" "bestUnder" "J", Cond.fieldLink RX8 171 "AgainAgainModel" "bestOver" "J", Cond.methodLink RX8 162 yX8_plans, Cond.instanceMethod yX8_plans, Cond.selects RX8 yX8_plans yX8_plans, Cond.code yX8_plans cX8_plans 2 (some .int), Cond.methodLink RX8 165 yX8_findPlanWorth, Cond.instanceMethod yX8_findPlanWorth, Cond.selects RX8 yX8_findPlanWorth yX8_findPlanWorth, Cond.code yX8_findPlanWorth cX8_findPlanWorth 7 none]
def wsL_law_r29 : List Cond := [Cond.methodLink RL 95 yX7_bestWorth, Cond.instanceMethod yX7_bestWorth, Cond.selects RX7 yX7_bestWorth yX7_bestWorth, Cond.code yX7_bestWorth cX7_bestWorth 4 (some .long), Cond.methodLink RX7 215 yX3_bestPart, Cond.instanceMethod yX3_bestPart, Cond.selects RX3 yX3_bestPart yX3_bestPart, Cond.code yX3_bestPart cX3_bestPart 4 (some .long), Cond.methodLink RL 98 yX8_bestWorth, Cond.instanceMethod yX8_bestWorth, Cond.selects RX8 yX8_bestWorth yX8_bestWorth, Cond.code yX8_bestWorth cX8_bestWorth 4 (some .long), Cond.methodLink RL 99 yX7_planWorth, Cond.instanceMethod yX7_planWorth, Cond.selects RX7 yX7_planWorth yX7_planWorth, Cond.code yX7_planWorth cX7_planWorth 5 (some .long), Cond.methodLink RX7 219 yX2_statesOf, Cond.methodLink RX7 222 yX3_plansAgainst, Cond.methodLink RX7 225 yX3_weigh, Cond.methodLink RL 103 yX8_planWorth, Cond.instanceMethod yX8_planWorth, Cond.selects RX8 yX8_planWorth yX8_planWorth, Cond.code yX8_planWorth cX8_planWorth 5 (some .long), Cond.methodLink RL 104 yX7_rest]
def wsL_law_r30 : List Cond := [Cond.instanceMethod yX7_rest, Cond.selects RX7 yX7_rest yX7_rest, Cond.code yX7_rest cX7_rest 3 (some .int), Cond.methodLink RX7 229 yX7_takeBothSides, Cond.instanceMethod yX7_takeBothSides, Cond.selects RX7 yX7_takeBothSides yX7_takeBothSides, Cond.code yX7_takeBothSides cX7_takeBothSides 3 none, Cond.methodLink RX7 232 yX7_restFrom, Cond.instanceMethod yX7_restFrom, Cond.selects RX7 yX7_restFrom yX7_restFrom, Cond.code yX7_restFrom cX7_restFrom 5 (some .boolean), Cond.methodLink RX7 293 yX7_gainsByPlan, Cond.instanceMethod yX7_gainsByPlan, Cond.selects RX7 yX7_gainsByPlan yX7_gainsByPlan, Cond.code yX7_gainsByPlan cX7_gainsByPlan 5 (some .boolean), Cond.methodLink RX7 289 yX3_bestCompared, Cond.methodLink RL 107 yX8_rest, Cond.instanceMethod yX8_rest, Cond.selects RX8 yX8_rest yX8_rest, Cond.code yX8_rest cX8_rest 3 (some .int), Cond.methodLink RX8 184 yX8_rests, Cond.instanceMethod yX8_rests, Cond.selects RX8 yX8_rests yX8_rests, Cond.code yX8_rests cX8_rests 4 (some .boolean)]
def wsL_law_r31 : List Cond := [Cond.methodLink RX8 177 yX8_isBest, Cond.instanceMethod yX8_isBest, Cond.selects RX8 yX8_isBest yX8_isBest, Cond.code yX8_isBest cX8_isBest 4 (some .boolean), Cond.methodLink RX8 181 yX8_turned, Cond.static yX8_turned, Cond.code yX8_turned cX8_turned 1 (some .int), Cond.methodLink RL 108 yX7_everywhere, Cond.instanceMethod yX7_everywhere, Cond.selects RX7 yX7_everywhere yX7_everywhere, Cond.code yX7_everywhere cX7_everywhere 3 (some .int), Cond.methodLink RX7 236 yX3_learnAll, Cond.instanceMethod yX3_learnAll, Cond.selects RX3 yX3_learnAll yX3_learnAll, Cond.code yX3_learnAll cX3_learnAll 5 none, Cond.methodLink RX3 77 yX3_learn, Cond.methodLink RX7 240 yX7_firstUnrest, Cond.instanceMethod yX7_firstUnrest, Cond.selects RX7 yX7_firstUnrest yX7_firstUnrest, Cond.code yX7_firstUnrest cX7_firstUnrest 5 (some .int), Cond.methodLink RL 111 yX8_everywhere, Cond.instanceMethod yX8_everywhere, Cond.selects RX8 yX8_everywhere yX8_everywhere, Cond.code yX8_everywhere cX8_everywhere 3 (some .int)]
def wsL_law_r32 : List Cond := [Cond.methodLink RX8 187 yX8_firstThatMoves, Cond.instanceMethod yX8_firstThatMoves, Cond.selects RX8 yX8_firstThatMoves yX8_firstThatMoves, Cond.code yX8_firstThatMoves cX8_firstThatMoves 5 (some .int), Cond.methodLink RL 112 yX7_deviation, Cond.instanceMethod yX7_deviation, Cond.selects RX7 yX7_deviation yX7_deviation, Cond.code yX7_deviation cX7_deviation 5 (some .int), Cond.methodLink RX7 246 yX7_deviationFrom, Cond.instanceMethod yX7_deviationFrom, Cond.selects RX7 yX7_deviationFrom yX7_deviationFrom, Cond.code yX7_deviationFrom cX7_deviationFrom 7 (some .int), Cond.methodLink RL 115 yX8_deviation, Cond.instanceMethod yX8_deviation, Cond.selects RX8 yX8_deviation yX8_deviation, Cond.code yX8_deviation cX8_deviation 6 (some .int), Cond.methodLink RL 116 yX7_resists, Cond.instanceMethod yX7_resists, Cond.selects RX7 yX7_resists yX7_resists, Cond.code yX7_resists cX7_resists 3 (some .int), Cond.methodLink RX7 250 yX7_withstands, Cond.instanceMethod yX7_withstands, Cond.selects RX7 yX7_withstands yX7_withstands, Cond.code yX7_withstands cX7_withstands 4 (some .boolean)]
def wsL_law_r33 : List Cond := [Cond.methodLink RX7 301 yX7_compareWorths, Cond.instanceMethod yX7_compareWorths, Cond.selects RX7 yX7_compareWorths yX7_compareWorths, Cond.code yX7_compareWorths cX7_compareWorths 5 (some .int), Cond.methodLink RX7 297 yX4_compareWith, Cond.methodLink RL 119 yX8_resists, Cond.instanceMethod yX8_resists, Cond.selects RX8 yX8_resists yX8_resists, Cond.code yX8_resists cX8_resists 3 (some .int), Cond.methodLink RX8 194 yX8_doesResist, Cond.instanceMethod yX8_doesResist, Cond.selects RX8 yX8_doesResist yX8_doesResist, Cond.code yX8_doesResist cX8_doesResist 4 (some .boolean), Cond.methodLink RX8 190 yX8_compare, Cond.instanceMethod yX8_compare, Cond.selects RX8 yX8_compare yX8_compare, Cond.code yX8_compare cX8_compare 13 (some .int), Cond.methodLink RL 120 yX7_invaders, Cond.instanceMethod yX7_invaders, Cond.selects RX7 yX7_invaders yX7_invaders, Cond.code yX7_invaders cX7_invaders 4 (some .int), Cond.methodLink RL 123 yX8_invaders, Cond.instanceMethod yX8_invaders, Cond.selects RX8 yX8_invaders yX8_invaders]
def wsL_law_r34 : List Cond := [Cond.code yX8_invaders cX8_invaders 4 (some .int), Cond.methodLink RL 124 yX7_score, Cond.instanceMethod yX7_score, Cond.selects RX7 yX7_score yX7_score, Cond.code yX7_score cX7_score 3 (some .int), Cond.methodLink RX7 253 yX7_gainsAgainstAll, Cond.instanceMethod yX7_gainsAgainstAll, Cond.selects RX7 yX7_gainsAgainstAll yX7_gainsAgainstAll, Cond.code yX7_gainsAgainstAll cX7_gainsAgainstAll 5 (some .int), Cond.methodLink RL 127 yX8_score, Cond.instanceMethod yX8_score, Cond.selects RX8 yX8_score yX8_score, Cond.code yX8_score cX8_score 3 (some .int), Cond.methodLink RX8 197 yX8_scoreOf, Cond.instanceMethod yX8_scoreOf, Cond.selects RX8 yX8_scoreOf yX8_scoreOf, Cond.code yX8_scoreOf cX8_scoreOf 5 (some .int), Cond.methodLink RL 128 yX7_place, Cond.instanceMethod yX7_place, Cond.selects RX7 yX7_place yX7_place, Cond.code yX7_place cX7_place 4 (some .int), Cond.methodLink RX7 256 yX7_machinesAheadOf, Cond.instanceMethod yX7_machinesAheadOf, Cond.selects RX7 yX7_machinesAheadOf yX7_machinesAheadOf]
def wsL_law_r35 : List Cond := [Cond.code yX7_machinesAheadOf cX7_machinesAheadOf 4 (some .int), Cond.methodLink RL 131 yX8_place, Cond.instanceMethod yX8_place, Cond.selects RX8 yX8_place yX8_place, Cond.code yX8_place cX8_place 6 (some .int), Cond.methodLink RL 132 yX7_count, Cond.instanceMethod yX7_count, Cond.selects RX7 yX7_count yX7_count, Cond.code yX7_count cX7_count 2 (some .int), Cond.methodLink RX7 259 yX1_unlikeMachines, Cond.instanceMethod yX1_unlikeMachines, Cond.selects RX1 yX1_unlikeMachines yX1_unlikeMachines, Cond.code yX1_unlikeMachines cX1_unlikeMachines 4 (some .int), Cond.methodLink RX1 19 yX2_many, Cond.methodLink RX1 25 yX1_isNew, Cond.instanceMethod yX1_isNew, Cond.selects RX1 yX1_isNew yX1_isNew, Cond.code yX1_isNew cX1_isNew 4 (some .boolean), Cond.methodLink RX1 29 yX1_areLike, Cond.methodLink RX7 263 yX7_restingPairs, Cond.instanceMethod yX7_restingPairs, Cond.selects RX7 yX7_restingPairs yX7_restingPairs, Cond.code yX7_restingPairs cX7_restingPairs 4 (some .int), Cond.methodLink RX7 266 yX5_cellsOf]
def wsL_law_r36 : List Cond := [Cond.instanceMethod yX5_cellsOf, Cond.selects RX5 yX5_cellsOf yX5_cellsOf, Cond.code yX5_cellsOf cX5_cellsOf 2 (some .int), Cond.methodLink RL 135 yX8_count, Cond.instanceMethod yX8_count, Cond.selects RX8 yX8_count yX8_count, Cond.code yX8_count cX8_count 6 (some .int)]
def wsL_law : List Cond := (wsL_law_r1 ++ (wsL_law_r2 ++ (wsL_law_r3 ++ (wsL_law_r4 ++ (wsL_law_r5 ++ (wsL_law_r6 ++ (wsL_law_r7 ++ (wsL_law_r8 ++ (wsL_law_r9 ++ (wsL_law_r10 ++ (wsL_law_r11 ++ (wsL_law_r12 ++ (wsL_law_r13 ++ (wsL_law_r14 ++ (wsL_law_r15 ++ (wsL_law_r16 ++ (wsL_law_r17 ++ (wsL_law_r18 ++ (wsL_law_r19 ++ (wsL_law_r20 ++ (wsL_law_r21 ++ (wsL_law_r22 ++ (wsL_law_r23 ++ (wsL_law_r24 ++ (wsL_law_r25 ++ (wsL_law_r26 ++ (wsL_law_r27 ++ (wsL_law_r28 ++ (wsL_law_r29 ++ (wsL_law_r30 ++ (wsL_law_r31 ++ (wsL_law_r32 ++ (wsL_law_r33 ++ (wsL_law_r34 ++ (wsL_law_r35 ++ wsL_law_r36))))))))))))))))))))))))))))))))))) ++ wsX70 ++ wsX80 ++ wsX00 ++ wsX20 ++ wsX50 ++ wsX10 ++ wsX30 ++ wsX60 ++ wsX40 ++ ([] : List Cond)
abbrev vwCl : List vw_C := [(RX0, TX0, 3), (RX1, TX1, 1), (RX2, TX2, 4), (RX3, TX3, 5), (RX4, TX4, 2), (RX5, TX5, 3), (RX6, TX6, 6), (RX7, TX7, 10), (RX8, TX8, 21)]
theorem dX0_init_0 : decode cX0_init 0 = .ok (.aload_n 0, 1) := by decide +kernel
theorem dX0_init_1 : decode cX0_init 1 = .ok (.invokespecial 1, 3) := by decide +kernel
theorem dX0_init_4 : decode cX0_init 4 = .ok (.aload_n 0, 1) := by decide +kernel
theorem dX0_init_5 : decode cX0_init 5 = .ok (.bipush 9, 2) := by decide +kernel
theorem dX0_init_7 : decode cX0_init 7 = .ok (.newarray .int, 2) := by decide +kernel
theorem dX0_init_9 : decode cX0_init 9 = .ok (.putfield 9, 3) := by decide +kernel
theorem dX0_init_12 : decode cX0_init 12 = .ok (.aload_n 0, 1) := by decide +kernel
theorem dX0_init_13 : decode cX0_init 13 = .ok (.lconst 1, 1) := by decide +kernel
theorem dX0_init_14 : decode cX0_init 14 = .ok (.putfield 13, 3) := by decide +kernel
theorem dX0_init_17 : decode cX0_init 17 = .ok (.aload_n 0, 1) := by decide +kernel
theorem dX0_init_18 : decode cX0_init 18 = .ok (.ldc2_w 17, 3) := by decide +kernel
theorem dX0_init_21 : decode cX0_init 21 = .ok (.putfield 19, 3) := by decide +kernel
theorem dX0_init_24 : decode cX0_init 24 = .ok (.return_, 1) := by decide +kernel
theorem dX0_setGain_0 : decode cX0_setGain 0 = .ok (.aload_n 0, 1) := by decide +kernel
theorem dX0_setGain_1 : decode cX0_setGain 1 = .ok (.getfield 9, 3) := by decide +kernel
theorem dX0_setGain_4 : decode cX0_setGain 4 = .ok (.iconst 3, 1) := by decide +kernel
theorem dX0_setGain_5 : decode cX0_setGain 5 = .ok (.iload_n 1, 1) := by decide +kernel
theorem dX0_setGain_6 : decode cX0_setGain 6 = .ok (.imul, 1) := by decide +kernel
theorem dX0_setGain_7 : decode cX0_setGain 7 = .ok (.iload_n 2, 1) := by decide +kernel
theorem dX0_setGain_8 : decode cX0_setGain 8 = .ok (.iadd, 1) := by decide +kernel
theorem dX0_setGain_9 : decode cX0_setGain 9 = .ok (.iload_n 3, 1) := by decide +kernel
theorem dX0_setGain_10 : decode cX0_setGain 10 = .ok (.iastore, 1) := by decide +kernel
theorem dX0_setGain_11 : decode cX0_setGain 11 = .ok (.return_, 1) := by decide +kernel
theorem dX0_gain_0 : decode cX0_gain 0 = .ok (.aload_n 0, 1) := by decide +kernel
theorem dX0_gain_1 : decode cX0_gain 1 = .ok (.getfield 9, 3) := by decide +kernel
theorem dX0_gain_4 : decode cX0_gain 4 = .ok (.iconst 3, 1) := by decide +kernel
theorem dX0_gain_5 : decode cX0_gain 5 = .ok (.iload_n 1, 1) := by decide +kernel
theorem dX0_gain_6 : decode cX0_gain 6 = .ok (.imul, 1) := by decide +kernel
theorem dX0_gain_7 : decode cX0_gain 7 = .ok (.iload_n 2, 1) := by decide +kernel
theorem dX0_gain_8 : decode cX0_gain 8 = .ok (.iadd, 1) := by decide +kernel
theorem dX0_gain_9 : decode cX0_gain 9 = .ok (.iaload, 1) := by decide +kernel
theorem dX0_gain_10 : decode cX0_gain 10 = .ok (.ireturn, 1) := by decide +kernel
theorem dX0_setRate_0 : decode cX0_setRate 0 = .ok (.aload_n 0, 1) := by decide +kernel
theorem dX0_setRate_1 : decode cX0_setRate 1 = .ok (.iload_n 1, 1) := by decide +kernel
theorem dX0_setRate_2 : decode cX0_setRate 2 = .ok (.i2l, 1) := by decide +kernel
theorem dX0_setRate_3 : decode cX0_setRate 3 = .ok (.putfield 13, 3) := by decide +kernel
theorem dX0_setRate_6 : decode cX0_setRate 6 = .ok (.aload_n 0, 1) := by decide +kernel
theorem dX0_setRate_7 : decode cX0_setRate 7 = .ok (.iload_n 2, 1) := by decide +kernel
theorem dX0_setRate_8 : decode cX0_setRate 8 = .ok (.i2l, 1) := by decide +kernel
theorem dX0_setRate_9 : decode cX0_setRate 9 = .ok (.putfield 19, 3) := by decide +kernel
theorem dX0_setRate_12 : decode cX0_setRate 12 = .ok (.return_, 1) := by decide +kernel
theorem dX0_rateOver_0 : decode cX0_rateOver 0 = .ok (.aload_n 0, 1) := by decide +kernel
theorem dX0_rateOver_1 : decode cX0_rateOver 1 = .ok (.getfield 13, 3) := by decide +kernel
theorem dX0_rateOver_4 : decode cX0_rateOver 4 = .ok (.lreturn, 1) := by decide +kernel
theorem dX0_rateUnder_0 : decode cX0_rateUnder 0 = .ok (.aload_n 0, 1) := by decide +kernel
theorem dX0_rateUnder_1 : decode cX0_rateUnder 1 = .ok (.getfield 19, 3) := by decide +kernel
theorem dX0_rateUnder_4 : decode cX0_rateUnder 4 = .ok (.lreturn, 1) := by decide +kernel
theorem dX1_init_0 : decode cX1_init 0 = .ok (.aload_n 0, 1) := by decide +kernel
theorem dX1_init_1 : decode cX1_init 1 = .ok (.invokespecial 1, 3) := by decide +kernel
theorem dX1_init_4 : decode cX1_init 4 = .ok (.aload_n 0, 1) := by decide +kernel
theorem dX1_init_5 : decode cX1_init 5 = .ok (.bipush 16, 2) := by decide +kernel
theorem dX1_init_7 : decode cX1_init 7 = .ok (.newarray .int, 2) := by decide +kernel
theorem dX1_init_9 : decode cX1_init 9 = .ok (.putfield 9, 3) := by decide +kernel
theorem dX1_init_12 : decode cX1_init 12 = .ok (.return_, 1) := by decide +kernel
set_option maxRecDepth 20000 in
theorem ggX1_areLike_X1_statesLike : GoodIn wsX1_areLike wsX1_statesLike := goodIn_r _ [5, 6, 7, 8, 9, 10, 11, 12, 13, 14, 15, 16, 17, 18, 19, 20, 21, 22, 23, 24, 25, 26, 27, 28, 29, 4, 30, 31, 32, 33, 34, 35] (by decide +kernel) (by decide +kernel)
set_option maxRecDepth 20000 in
theorem gX1_areLike_X1_statesLike : GoodIn wsX1_areLike (wsV RX1 15 RX1 yX1_statesLike wsX1_statesLike) := goodIn_app (goodIn_of _ (by decide +kernel)) ggX1_areLike_X1_statesLike
theorem dX1_areLike_0 : decode cX1_areLike 0 = .ok (.aload_n 0, 1) := by decide +kernel
theorem dX1_areLike_1 : decode cX1_areLike 1 = .ok (.aload_n 1, 1) := by decide +kernel
theorem dX1_areLike_2 : decode cX1_areLike 2 = .ok (.iload_n 2, 1) := by decide +kernel
theorem dX1_areLike_3 : decode cX1_areLike 3 = .ok (.iconst 0, 1) := by decide +kernel
theorem dX1_areLike_4 : decode cX1_areLike 4 = .ok (.iload_n 3, 1) := by decide +kernel
theorem dX1_areLike_5 : decode cX1_areLike 5 = .ok (.iconst 0, 1) := by decide +kernel
theorem dX1_areLike_6 : decode cX1_areLike 6 = .ok (.invokevirtual 15, 3) := by decide +kernel
theorem dX1_areLike_9 : decode cX1_areLike 9 = .ok (.ireturn, 1) := by decide +kernel
set_option maxRecDepth 20000 in
theorem ggX1_unlikeMachines_X2_many : GoodIn wsX1_unlikeMachines wsX2_many := goodIn_r _ [5, 6, 44, 45, 46, 47] (by decide +kernel) (by decide +kernel)
set_option maxRecDepth 20000 in
theorem gX1_unlikeMachines_X2_many : GoodIn wsX1_unlikeMachines (wsV RX1 19 RX2 yX2_many wsX2_many) := goodIn_app (goodIn_of _ (by decide +kernel)) ggX1_unlikeMachines_X2_many
set_option maxRecDepth 20000 in
theorem ggX1_unlikeMachines_X1_isNew : GoodIn wsX1_unlikeMachines wsX1_isNew := goodIn_r _ [11, 12, 13, 14, 10, 15, 16, 17, 18, 19, 20, 21, 22, 23, 24, 25, 26, 27, 28, 29, 30, 31, 32, 33, 4, 34, 35, 36, 37, 38, 39, 40, 41, 42, 43, 48, 44, 45, 46, 47] (by decide +kernel) (by decide +kernel)
set_option maxRecDepth 20000 in
theorem gX1_unlikeMachines_X1_isNew : GoodIn wsX1_unlikeMachines (wsV RX1 25 RX1 yX1_isNew wsX1_isNew) := goodIn_app (goodIn_of _ (by decide +kernel)) ggX1_unlikeMachines_X1_isNew
theorem dX1_unlikeMachines_0 : decode cX1_unlikeMachines 0 = .ok (.iconst 0, 1) := by decide +kernel
theorem dX1_unlikeMachines_1 : decode cX1_unlikeMachines 1 = .ok (.istore_n 2, 1) := by decide +kernel
theorem dX1_unlikeMachines_2 : decode cX1_unlikeMachines 2 = .ok (.iconst 0, 1) := by decide +kernel
theorem dX1_unlikeMachines_3 : decode cX1_unlikeMachines 3 = .ok (.istore_n 3, 1) := by decide +kernel
theorem dX1_unlikeMachines_4 : decode cX1_unlikeMachines 4 = .ok (.iload_n 3, 1) := by decide +kernel
theorem dX1_unlikeMachines_5 : decode cX1_unlikeMachines 5 = .ok (.aload_n 1, 1) := by decide +kernel
theorem dX1_unlikeMachines_6 : decode cX1_unlikeMachines 6 = .ok (.invokevirtual 19, 3) := by decide +kernel
theorem dX1_unlikeMachines_9 : decode cX1_unlikeMachines 9 = .ok (.if_icmp .ge 21, 3) := by decide +kernel
theorem dX1_unlikeMachines_12 : decode cX1_unlikeMachines 12 = .ok (.aload_n 0, 1) := by decide +kernel
theorem dX1_unlikeMachines_13 : decode cX1_unlikeMachines 13 = .ok (.aload_n 1, 1) := by decide +kernel
theorem dX1_unlikeMachines_14 : decode cX1_unlikeMachines 14 = .ok (.iload_n 3, 1) := by decide +kernel
theorem dX1_unlikeMachines_15 : decode cX1_unlikeMachines 15 = .ok (.invokevirtual 25, 3) := by decide +kernel
theorem dX1_unlikeMachines_18 : decode cX1_unlikeMachines 18 = .ok (.ifCond .eq 6, 3) := by decide +kernel
theorem dX1_unlikeMachines_21 : decode cX1_unlikeMachines 21 = .ok (.iinc 2 1, 3) := by decide +kernel
theorem dX1_unlikeMachines_24 : decode cX1_unlikeMachines 24 = .ok (.iinc 3 1, 3) := by decide +kernel
theorem dX1_unlikeMachines_27 : decode cX1_unlikeMachines 27 = .ok (.goto (-23), 3) := by decide +kernel
theorem dX1_unlikeMachines_30 : decode cX1_unlikeMachines 30 = .ok (.iload_n 2, 1) := by decide +kernel
theorem dX1_unlikeMachines_31 : decode cX1_unlikeMachines 31 = .ok (.ireturn, 1) := by decide +kernel
set_option maxRecDepth 20000 in
theorem ggX1_isNew_X1_areLike : GoodIn wsX1_isNew wsX1_areLike := goodIn_r _ [5, 6, 7, 8, 4, 9, 10, 11, 12, 13, 14, 15, 16, 17, 18, 19, 20, 21, 22, 23, 24, 25, 26, 27, 28, 29, 30, 31, 32, 33, 34, 35, 36, 37, 38, 39] (by decide +kernel) (by decide +kernel)
set_option maxRecDepth 20000 in
theorem gX1_isNew_X1_areLike : GoodIn wsX1_isNew (wsV RX1 29 RX1 yX1_areLike wsX1_areLike) := goodIn_app (goodIn_of _ (by decide +kernel)) ggX1_isNew_X1_areLike
theorem dX1_isNew_0 : decode cX1_isNew 0 = .ok (.iconst 0, 1) := by decide +kernel
theorem dX1_isNew_1 : decode cX1_isNew 1 = .ok (.istore_n 3, 1) := by decide +kernel
theorem dX1_isNew_2 : decode cX1_isNew 2 = .ok (.iload_n 3, 1) := by decide +kernel
theorem dX1_isNew_3 : decode cX1_isNew 3 = .ok (.iload_n 2, 1) := by decide +kernel
theorem dX1_isNew_4 : decode cX1_isNew 4 = .ok (.if_icmp .ge 21, 3) := by decide +kernel
theorem dX1_isNew_7 : decode cX1_isNew 7 = .ok (.aload_n 0, 1) := by decide +kernel
theorem dX1_isNew_8 : decode cX1_isNew 8 = .ok (.aload_n 1, 1) := by decide +kernel
theorem dX1_isNew_9 : decode cX1_isNew 9 = .ok (.iload_n 3, 1) := by decide +kernel
theorem dX1_isNew_10 : decode cX1_isNew 10 = .ok (.iload_n 2, 1) := by decide +kernel
theorem dX1_isNew_11 : decode cX1_isNew 11 = .ok (.invokevirtual 29, 3) := by decide +kernel
theorem dX1_isNew_14 : decode cX1_isNew 14 = .ok (.ifCond .eq 5, 3) := by decide +kernel
theorem dX1_isNew_17 : decode cX1_isNew 17 = .ok (.iconst 0, 1) := by decide +kernel
theorem dX1_isNew_18 : decode cX1_isNew 18 = .ok (.ireturn, 1) := by decide +kernel
theorem dX1_isNew_19 : decode cX1_isNew 19 = .ok (.iinc 3 1, 3) := by decide +kernel
theorem dX1_isNew_22 : decode cX1_isNew 22 = .ok (.goto (-20), 3) := by decide +kernel
theorem dX1_isNew_25 : decode cX1_isNew 25 = .ok (.iconst 1, 1) := by decide +kernel
theorem dX1_isNew_26 : decode cX1_isNew 26 = .ok (.ireturn, 1) := by decide +kernel
set_option maxRecDepth 20000 in
theorem ggX1_unlikeStates_X1_reachedStates : GoodIn wsX1_unlikeStates wsX1_reachedStates := goodIn_r _ [4, 5, 6, 7, 8, 9, 10, 11, 12, 3, 13, 14, 15, 16, 17, 18, 43, 44, 45, 46] (by decide +kernel) (by decide +kernel)
set_option maxRecDepth 20000 in
theorem gX1_unlikeStates_X1_reachedStates : GoodIn wsX1_unlikeStates (va_wsS RX1 33 yX1_reachedStates wsX1_reachedStates) := goodIn_app (goodIn_of _ (by decide +kernel)) ggX1_unlikeStates_X1_reachedStates
set_option maxRecDepth 20000 in
theorem ggX1_unlikeStates_X2_statesOf : GoodIn wsX1_unlikeStates wsX2_statesOf := goodIn_r _ [9, 10, 43, 44, 45, 46] (by decide +kernel) (by decide +kernel)
set_option maxRecDepth 20000 in
theorem gX1_unlikeStates_X2_statesOf : GoodIn wsX1_unlikeStates (wsV RX1 37 RX2 yX2_statesOf wsX2_statesOf) := goodIn_app (goodIn_of _ (by decide +kernel)) ggX1_unlikeStates_X2_statesOf
set_option maxRecDepth 20000 in
theorem ggX1_unlikeStates_X1_holds : GoodIn wsX1_unlikeStates wsX1_holds := goodIn_r _ [13] (by decide +kernel) (by decide +kernel)
set_option maxRecDepth 20000 in
theorem gX1_unlikeStates_X1_holds : GoodIn wsX1_unlikeStates (va_wsS RX1 41 yX1_holds wsX1_holds) := goodIn_app (goodIn_of _ (by decide +kernel)) ggX1_unlikeStates_X1_holds
set_option maxRecDepth 20000 in
theorem ggX1_unlikeStates_X1_isNewState : GoodIn wsX1_unlikeStates wsX1_isNewState := goodIn_r _ [22, 11, 12, 3, 13, 23, 24, 25, 26, 27, 28, 29, 30, 31, 32, 33, 34, 35, 36, 37, 38, 39, 40, 8, 41, 42, 14, 15, 16, 17, 18, 47, 43, 44, 45, 46] (by decide +kernel) (by decide +kernel)
set_option maxRecDepth 20000 in
theorem gX1_unlikeStates_X1_isNewState : GoodIn wsX1_unlikeStates (wsV RX1 45 RX1 yX1_isNewState wsX1_isNewState) := goodIn_app (goodIn_of _ (by decide +kernel)) ggX1_unlikeStates_X1_isNewState
theorem dX1_unlikeStates_0 : decode cX1_unlikeStates 0 = .ok (.aload_n 1, 1) := by decide +kernel
theorem dX1_unlikeStates_1 : decode cX1_unlikeStates 1 = .ok (.iload_n 2, 1) := by decide +kernel
theorem dX1_unlikeStates_2 : decode cX1_unlikeStates 2 = .ok (.invokestatic 33, 3) := by decide +kernel
theorem dX1_unlikeStates_5 : decode cX1_unlikeStates 5 = .ok (.istore_n 3, 1) := by decide +kernel
theorem dX1_unlikeStates_6 : decode cX1_unlikeStates 6 = .ok (.iconst 0, 1) := by decide +kernel
theorem dX1_unlikeStates_7 : decode cX1_unlikeStates 7 = .ok (.istore 4, 2) := by decide +kernel
theorem dX1_unlikeStates_9 : decode cX1_unlikeStates 9 = .ok (.iconst 0, 1) := by decide +kernel
theorem dX1_unlikeStates_10 : decode cX1_unlikeStates 10 = .ok (.istore 5, 2) := by decide +kernel
theorem dX1_unlikeStates_12 : decode cX1_unlikeStates 12 = .ok (.iload 5, 2) := by decide +kernel
theorem dX1_unlikeStates_14 : decode cX1_unlikeStates 14 = .ok (.aload_n 1, 1) := by decide +kernel
theorem dX1_unlikeStates_15 : decode cX1_unlikeStates 15 = .ok (.iload_n 2, 1) := by decide +kernel
theorem dX1_unlikeStates_16 : decode cX1_unlikeStates 16 = .ok (.invokevirtual 37, 3) := by decide +kernel
theorem dX1_unlikeStates_19 : decode cX1_unlikeStates 19 = .ok (.if_icmp .ge 33, 3) := by decide +kernel
theorem dX1_unlikeStates_22 : decode cX1_unlikeStates 22 = .ok (.iload_n 3, 1) := by decide +kernel
theorem dX1_unlikeStates_23 : decode cX1_unlikeStates 23 = .ok (.iload 5, 2) := by decide +kernel
theorem dX1_unlikeStates_25 : decode cX1_unlikeStates 25 = .ok (.invokestatic 41, 3) := by decide +kernel
theorem dX1_unlikeStates_28 : decode cX1_unlikeStates 28 = .ok (.ifCond .eq 18, 3) := by decide +kernel
theorem dX1_unlikeStates_31 : decode cX1_unlikeStates 31 = .ok (.aload_n 0, 1) := by decide +kernel
theorem dX1_unlikeStates_32 : decode cX1_unlikeStates 32 = .ok (.aload_n 1, 1) := by decide +kernel
theorem dX1_unlikeStates_33 : decode cX1_unlikeStates 33 = .ok (.iload_n 2, 1) := by decide +kernel
theorem dX1_unlikeStates_34 : decode cX1_unlikeStates 34 = .ok (.iload 5, 2) := by decide +kernel
theorem dX1_unlikeStates_36 : decode cX1_unlikeStates 36 = .ok (.iload_n 3, 1) := by decide +kernel
theorem dX1_unlikeStates_37 : decode cX1_unlikeStates 37 = .ok (.invokevirtual 45, 3) := by decide +kernel
theorem dX1_unlikeStates_40 : decode cX1_unlikeStates 40 = .ok (.ifCond .eq 6, 3) := by decide +kernel
theorem dX1_unlikeStates_43 : decode cX1_unlikeStates 43 = .ok (.iinc 4 1, 3) := by decide +kernel
theorem dX1_unlikeStates_46 : decode cX1_unlikeStates 46 = .ok (.iinc 5 1, 3) := by decide +kernel
theorem dX1_unlikeStates_49 : decode cX1_unlikeStates 49 = .ok (.goto (-37), 3) := by decide +kernel
theorem dX1_unlikeStates_52 : decode cX1_unlikeStates 52 = .ok (.iload 4, 2) := by decide +kernel
theorem dX1_unlikeStates_54 : decode cX1_unlikeStates 54 = .ok (.ireturn, 1) := by decide +kernel
set_option maxRecDepth 20000 in
theorem ggX1_isNewState_X1_holds : GoodIn wsX1_isNewState wsX1_holds := goodIn_r _ [4] (by decide +kernel) (by decide +kernel)
set_option maxRecDepth 20000 in
theorem gX1_isNewState_X1_holds : GoodIn wsX1_isNewState (va_wsS RX1 41 yX1_holds wsX1_holds) := goodIn_app (goodIn_of _ (by decide +kernel)) ggX1_isNewState_X1_holds
set_option maxRecDepth 20000 in
theorem ggX1_isNewState_X1_statesLike : GoodIn wsX1_isNewState wsX1_statesLike := goodIn_r _ [8, 9, 10, 11, 12, 13, 14, 15, 16, 17, 18, 19, 20, 21, 22, 23, 24, 25, 26, 27, 28, 29, 30, 1, 2, 3, 4, 31, 32, 33, 34, 35] (by decide +kernel) (by decide +kernel)
set_option maxRecDepth 20000 in
theorem gX1_isNewState_X1_statesLike : GoodIn wsX1_isNewState (wsV RX1 15 RX1 yX1_statesLike wsX1_statesLike) := goodIn_app (goodIn_of _ (by decide +kernel)) ggX1_isNewState_X1_statesLike
theorem dX1_isNewState_0 : decode cX1_isNewState 0 = .ok (.iconst 0, 1) := by decide +kernel
theorem dX1_isNewState_1 : decode cX1_isNewState 1 = .ok (.istore 5, 2) := by decide +kernel
theorem dX1_isNewState_3 : decode cX1_isNewState 3 = .ok (.iload 5, 2) := by decide +kernel
theorem dX1_isNewState_5 : decode cX1_isNewState 5 = .ok (.iload_n 3, 1) := by decide +kernel
theorem dX1_isNewState_6 : decode cX1_isNewState 6 = .ok (.if_icmp .ge 34, 3) := by decide +kernel
theorem dX1_isNewState_9 : decode cX1_isNewState 9 = .ok (.iload 4, 2) := by decide +kernel
theorem dX1_isNewState_11 : decode cX1_isNewState 11 = .ok (.iload 5, 2) := by decide +kernel
theorem dX1_isNewState_13 : decode cX1_isNewState 13 = .ok (.invokestatic 41, 3) := by decide +kernel
theorem dX1_isNewState_16 : decode cX1_isNewState 16 = .ok (.ifCond .eq 18, 3) := by decide +kernel
theorem dX1_isNewState_19 : decode cX1_isNewState 19 = .ok (.aload_n 0, 1) := by decide +kernel
theorem dX1_isNewState_20 : decode cX1_isNewState 20 = .ok (.aload_n 1, 1) := by decide +kernel
theorem dX1_isNewState_21 : decode cX1_isNewState 21 = .ok (.iload_n 2, 1) := by decide +kernel
theorem dX1_isNewState_22 : decode cX1_isNewState 22 = .ok (.iload_n 3, 1) := by decide +kernel
theorem dX1_isNewState_23 : decode cX1_isNewState 23 = .ok (.iload_n 2, 1) := by decide +kernel
theorem dX1_isNewState_24 : decode cX1_isNewState 24 = .ok (.iload 5, 2) := by decide +kernel
theorem dX1_isNewState_26 : decode cX1_isNewState 26 = .ok (.invokevirtual 15, 3) := by decide +kernel
theorem dX1_isNewState_29 : decode cX1_isNewState 29 = .ok (.ifCond .eq 5, 3) := by decide +kernel
theorem dX1_isNewState_32 : decode cX1_isNewState 32 = .ok (.iconst 0, 1) := by decide +kernel
theorem dX1_isNewState_33 : decode cX1_isNewState 33 = .ok (.ireturn, 1) := by decide +kernel
theorem dX1_isNewState_34 : decode cX1_isNewState 34 = .ok (.iinc 5 1, 3) := by decide +kernel
theorem dX1_isNewState_37 : decode cX1_isNewState 37 = .ok (.goto (-34), 3) := by decide +kernel
theorem dX1_isNewState_40 : decode cX1_isNewState 40 = .ok (.iconst 1, 1) := by decide +kernel
theorem dX1_isNewState_41 : decode cX1_isNewState 41 = .ok (.ireturn, 1) := by decide +kernel
theorem dX1_holds_0 : decode cX1_holds 0 = .ok (.iload_n 0, 1) := by decide +kernel
theorem dX1_holds_1 : decode cX1_holds 1 = .ok (.iload_n 1, 1) := by decide +kernel
theorem dX1_holds_2 : decode cX1_holds 2 = .ok (.ishr, 1) := by decide +kernel
theorem dX1_holds_3 : decode cX1_holds 3 = .ok (.iconst 1, 1) := by decide +kernel
theorem dX1_holds_4 : decode cX1_holds 4 = .ok (.iand, 1) := by decide +kernel
theorem dX1_holds_5 : decode cX1_holds 5 = .ok (.iconst 1, 1) := by decide +kernel
theorem dX1_holds_6 : decode cX1_holds 6 = .ok (.if_icmp .ne 7, 3) := by decide +kernel
theorem dX1_holds_9 : decode cX1_holds 9 = .ok (.iconst 1, 1) := by decide +kernel
theorem dX1_holds_10 : decode cX1_holds 10 = .ok (.goto 4, 3) := by decide +kernel
theorem dX1_holds_13 : decode cX1_holds 13 = .ok (.iconst 0, 1) := by decide +kernel
theorem dX1_holds_14 : decode cX1_holds 14 = .ok (.ireturn, 1) := by decide +kernel
set_option maxRecDepth 20000 in
theorem ggX1_reachedStates_X2_statesOf : GoodIn wsX1_reachedStates wsX2_statesOf := goodIn_r _ [5, 6, 16, 17, 18, 19] (by decide +kernel) (by decide +kernel)
set_option maxRecDepth 20000 in
theorem gX1_reachedStates_X2_statesOf : GoodIn wsX1_reachedStates (wsV RX1 37 RX2 yX2_statesOf wsX2_statesOf) := goodIn_app (goodIn_of _ (by decide +kernel)) ggX1_reachedStates_X2_statesOf
set_option maxRecDepth 20000 in
theorem ggX1_reachedStates_X1_holds : GoodIn wsX1_reachedStates wsX1_holds := goodIn_r _ [10] (by decide +kernel) (by decide +kernel)
set_option maxRecDepth 20000 in
theorem gX1_reachedStates_X1_holds : GoodIn wsX1_reachedStates (va_wsS RX1 41 yX1_holds wsX1_holds) := goodIn_app (goodIn_of _ (by decide +kernel)) ggX1_reachedStates_X1_holds
set_option maxRecDepth 20000 in
theorem ggX1_reachedStates_X2_nextOf : GoodIn wsX1_reachedStates wsX2_nextOf := goodIn_r _ [14, 15, 16, 17, 18, 19] (by decide +kernel) (by decide +kernel)
set_option maxRecDepth 20000 in
theorem gX1_reachedStates_X2_nextOf : GoodIn wsX1_reachedStates (wsV RX1 51 RX2 yX2_nextOf wsX2_nextOf) := goodIn_app (goodIn_of _ (by decide +kernel)) ggX1_reachedStates_X2_nextOf
theorem dX1_reachedStates_0 : decode cX1_reachedStates 0 = .ok (.iconst 1, 1) := by decide +kernel
theorem dX1_reachedStates_1 : decode cX1_reachedStates 1 = .ok (.istore_n 2, 1) := by decide +kernel
theorem dX1_reachedStates_2 : decode cX1_reachedStates 2 = .ok (.iconst 0, 1) := by decide +kernel
theorem dX1_reachedStates_3 : decode cX1_reachedStates 3 = .ok (.istore_n 3, 1) := by decide +kernel
theorem dX1_reachedStates_4 : decode cX1_reachedStates 4 = .ok (.iload_n 3, 1) := by decide +kernel
theorem dX1_reachedStates_5 : decode cX1_reachedStates 5 = .ok (.iconst 4, 1) := by decide +kernel
theorem dX1_reachedStates_6 : decode cX1_reachedStates 6 = .ok (.if_icmp .ge 66, 3) := by decide +kernel
theorem dX1_reachedStates_9 : decode cX1_reachedStates 9 = .ok (.iconst 0, 1) := by decide +kernel
theorem dX1_reachedStates_10 : decode cX1_reachedStates 10 = .ok (.istore 4, 2) := by decide +kernel
theorem dX1_reachedStates_12 : decode cX1_reachedStates 12 = .ok (.iload 4, 2) := by decide +kernel
theorem dX1_reachedStates_14 : decode cX1_reachedStates 14 = .ok (.aload_n 0, 1) := by decide +kernel
theorem dX1_reachedStates_15 : decode cX1_reachedStates 15 = .ok (.iload_n 1, 1) := by decide +kernel
theorem dX1_reachedStates_16 : decode cX1_reachedStates 16 = .ok (.invokevirtual 37, 3) := by decide +kernel
theorem dX1_reachedStates_19 : decode cX1_reachedStates 19 = .ok (.if_icmp .ge 47, 3) := by decide +kernel
theorem dX1_reachedStates_22 : decode cX1_reachedStates 22 = .ok (.iconst 0, 1) := by decide +kernel
theorem dX1_reachedStates_23 : decode cX1_reachedStates 23 = .ok (.istore 5, 2) := by decide +kernel
theorem dX1_reachedStates_25 : decode cX1_reachedStates 25 = .ok (.iload 5, 2) := by decide +kernel
theorem dX1_reachedStates_27 : decode cX1_reachedStates 27 = .ok (.iconst 3, 1) := by decide +kernel
theorem dX1_reachedStates_28 : decode cX1_reachedStates 28 = .ok (.if_icmp .ge 32, 3) := by decide +kernel
theorem dX1_reachedStates_31 : decode cX1_reachedStates 31 = .ok (.iload_n 2, 1) := by decide +kernel
theorem dX1_reachedStates_32 : decode cX1_reachedStates 32 = .ok (.iload 4, 2) := by decide +kernel
theorem dX1_reachedStates_34 : decode cX1_reachedStates 34 = .ok (.invokestatic 41, 3) := by decide +kernel
theorem dX1_reachedStates_37 : decode cX1_reachedStates 37 = .ok (.ifCond .eq 23, 3) := by decide +kernel
theorem dX1_reachedStates_40 : decode cX1_reachedStates 40 = .ok (.iload_n 2, 1) := by decide +kernel
theorem dX1_reachedStates_41 : decode cX1_reachedStates 41 = .ok (.iconst 1, 1) := by decide +kernel
theorem dX1_reachedStates_42 : decode cX1_reachedStates 42 = .ok (.aload_n 0, 1) := by decide +kernel
theorem dX1_reachedStates_43 : decode cX1_reachedStates 43 = .ok (.iload_n 1, 1) := by decide +kernel
theorem dX1_reachedStates_44 : decode cX1_reachedStates 44 = .ok (.iload 4, 2) := by decide +kernel
theorem dX1_reachedStates_46 : decode cX1_reachedStates 46 = .ok (.iload 5, 2) := by decide +kernel
theorem dX1_reachedStates_48 : decode cX1_reachedStates 48 = .ok (.invokevirtual 51, 3) := by decide +kernel
theorem dX1_reachedStates_51 : decode cX1_reachedStates 51 = .ok (.ishl, 1) := by decide +kernel
theorem dX1_reachedStates_52 : decode cX1_reachedStates 52 = .ok (.ior, 1) := by decide +kernel
theorem dX1_reachedStates_53 : decode cX1_reachedStates 53 = .ok (.istore_n 2, 1) := by decide +kernel
theorem dX1_reachedStates_54 : decode cX1_reachedStates 54 = .ok (.iinc 5 1, 3) := by decide +kernel
theorem dX1_reachedStates_57 : decode cX1_reachedStates 57 = .ok (.goto (-32), 3) := by decide +kernel
theorem dX1_reachedStates_60 : decode cX1_reachedStates 60 = .ok (.iinc 4 1, 3) := by decide +kernel
theorem dX1_reachedStates_63 : decode cX1_reachedStates 63 = .ok (.goto (-51), 3) := by decide +kernel
theorem dX1_reachedStates_66 : decode cX1_reachedStates 66 = .ok (.iinc 3 1, 3) := by decide +kernel
theorem dX1_reachedStates_69 : decode cX1_reachedStates 69 = .ok (.goto (-65), 3) := by decide +kernel
theorem dX1_reachedStates_72 : decode cX1_reachedStates 72 = .ok (.iload_n 2, 1) := by decide +kernel
theorem dX1_reachedStates_73 : decode cX1_reachedStates 73 = .ok (.ireturn, 1) := by decide +kernel
set_option maxRecDepth 20000 in
theorem ggX1_statesLike_X6_placeOf : GoodIn wsX1_statesLike wsX6_placeOf := goodIn_r _ [5] (by decide +kernel) (by decide +kernel)
set_option maxRecDepth 20000 in
theorem gX1_statesLike_X6_placeOf : GoodIn wsX1_statesLike (va_wsS RX1 55 yX6_placeOf wsX6_placeOf) := goodIn_app (goodIn_of _ (by decide +kernel)) ggX1_statesLike_X6_placeOf
set_option maxRecDepth 20000 in
theorem ggX1_statesLike_X6_mine : GoodIn wsX1_statesLike wsX6_mine := goodIn_r _ [8] (by decide +kernel) (by decide +kernel)
set_option maxRecDepth 20000 in
theorem gX1_statesLike_X6_mine : GoodIn wsX1_statesLike (va_wsS RX1 59 yX6_mine wsX6_mine) := goodIn_app (goodIn_of _ (by decide +kernel)) ggX1_statesLike_X6_mine
set_option maxRecDepth 20000 in
theorem ggX1_statesLike_X6_theirs : GoodIn wsX1_statesLike wsX6_theirs := goodIn_r _ [11] (by decide +kernel) (by decide +kernel)
set_option maxRecDepth 20000 in
theorem gX1_statesLike_X6_theirs : GoodIn wsX1_statesLike (va_wsS RX1 62 yX6_theirs wsX6_theirs) := goodIn_app (goodIn_of _ (by decide +kernel)) ggX1_statesLike_X6_theirs
set_option maxRecDepth 20000 in
theorem ggX1_statesLike_X2_actionOf : GoodIn wsX1_statesLike wsX2_actionOf := goodIn_r _ [16, 17, 28, 29, 30, 31] (by decide +kernel) (by decide +kernel)
set_option maxRecDepth 20000 in
theorem gX1_statesLike_X2_actionOf : GoodIn wsX1_statesLike (wsV RX1 65 RX2 yX2_actionOf wsX2_actionOf) := goodIn_app (goodIn_of _ (by decide +kernel)) ggX1_statesLike_X2_actionOf
set_option maxRecDepth 20000 in
theorem ggX1_statesLike_X2_nextOf : GoodIn wsX1_statesLike wsX2_nextOf := goodIn_r _ [21, 22, 28, 29, 30, 31] (by decide +kernel) (by decide +kernel)
set_option maxRecDepth 20000 in
theorem gX1_statesLike_X2_nextOf : GoodIn wsX1_statesLike (wsV RX1 51 RX2 yX2_nextOf wsX2_nextOf) := goodIn_app (goodIn_of _ (by decide +kernel)) ggX1_statesLike_X2_nextOf
set_option maxRecDepth 20000 in
theorem ggX1_statesLike_X1_holds : GoodIn wsX1_statesLike wsX1_holds := goodIn_r _ [26] (by decide +kernel) (by decide +kernel)
set_option maxRecDepth 20000 in
theorem gX1_statesLike_X1_holds : GoodIn wsX1_statesLike (va_wsS RX1 41 yX1_holds wsX1_holds) := goodIn_app (goodIn_of _ (by decide +kernel)) ggX1_statesLike_X1_holds
theorem dX1_statesLike_0 : decode cX1_statesLike 0 = .ok (.aload_n 0, 1) := by decide +kernel
theorem dX1_statesLike_1 : decode cX1_statesLike 1 = .ok (.getfield 9, 3) := by decide +kernel
theorem dX1_statesLike_4 : decode cX1_statesLike 4 = .ok (.iconst 0, 1) := by decide +kernel
theorem dX1_statesLike_5 : decode cX1_statesLike 5 = .ok (.iload_n 3, 1) := by decide +kernel
theorem dX1_statesLike_6 : decode cX1_statesLike 6 = .ok (.iload 5, 2) := by decide +kernel
theorem dX1_statesLike_8 : decode cX1_statesLike 8 = .ok (.invokestatic 55, 3) := by decide +kernel
theorem dX1_statesLike_11 : decode cX1_statesLike 11 = .ok (.iastore, 1) := by decide +kernel
theorem dX1_statesLike_12 : decode cX1_statesLike 12 = .ok (.iconst 1, 1) := by decide +kernel
theorem dX1_statesLike_13 : decode cX1_statesLike 13 = .ok (.aload_n 0, 1) := by decide +kernel
theorem dX1_statesLike_14 : decode cX1_statesLike 14 = .ok (.getfield 9, 3) := by decide +kernel
theorem dX1_statesLike_17 : decode cX1_statesLike 17 = .ok (.iconst 0, 1) := by decide +kernel
theorem dX1_statesLike_18 : decode cX1_statesLike 18 = .ok (.iaload, 1) := by decide +kernel
theorem dX1_statesLike_19 : decode cX1_statesLike 19 = .ok (.ishl, 1) := by decide +kernel
theorem dX1_statesLike_20 : decode cX1_statesLike 20 = .ok (.istore 6, 2) := by decide +kernel
theorem dX1_statesLike_22 : decode cX1_statesLike 22 = .ok (.iconst 1, 1) := by decide +kernel
theorem dX1_statesLike_23 : decode cX1_statesLike 23 = .ok (.istore 7, 2) := by decide +kernel
theorem dX1_statesLike_25 : decode cX1_statesLike 25 = .ok (.iconst 0, 1) := by decide +kernel
theorem dX1_statesLike_26 : decode cX1_statesLike 26 = .ok (.istore 8, 2) := by decide +kernel
theorem dX1_statesLike_28 : decode cX1_statesLike 28 = .ok (.iload 8, 2) := by decide +kernel
theorem dX1_statesLike_30 : decode cX1_statesLike 30 = .ok (.bipush 16, 2) := by decide +kernel
theorem dX1_statesLike_32 : decode cX1_statesLike 32 = .ok (.if_icmp .ge 130, 3) := by decide +kernel
theorem dX1_statesLike_35 : decode cX1_statesLike 35 = .ok (.iload 8, 2) := by decide +kernel
theorem dX1_statesLike_37 : decode cX1_statesLike 37 = .ok (.iload 7, 2) := by decide +kernel
theorem dX1_statesLike_39 : decode cX1_statesLike 39 = .ok (.if_icmp .ge 123, 3) := by decide +kernel
theorem dX1_statesLike_42 : decode cX1_statesLike 42 = .ok (.aload_n 0, 1) := by decide +kernel
theorem dX1_statesLike_43 : decode cX1_statesLike 43 = .ok (.getfield 9, 3) := by decide +kernel
theorem dX1_statesLike_46 : decode cX1_statesLike 46 = .ok (.iload 8, 2) := by decide +kernel
theorem dX1_statesLike_48 : decode cX1_statesLike 48 = .ok (.iaload, 1) := by decide +kernel
theorem dX1_statesLike_49 : decode cX1_statesLike 49 = .ok (.invokestatic 59, 3) := by decide +kernel
theorem dX1_statesLike_52 : decode cX1_statesLike 52 = .ok (.istore 9, 2) := by decide +kernel
theorem dX1_statesLike_54 : decode cX1_statesLike 54 = .ok (.aload_n 0, 1) := by decide +kernel
theorem dX1_statesLike_55 : decode cX1_statesLike 55 = .ok (.getfield 9, 3) := by decide +kernel
theorem dX1_statesLike_58 : decode cX1_statesLike 58 = .ok (.iload 8, 2) := by decide +kernel
theorem dX1_statesLike_60 : decode cX1_statesLike 60 = .ok (.iaload, 1) := by decide +kernel
theorem dX1_statesLike_61 : decode cX1_statesLike 61 = .ok (.invokestatic 62, 3) := by decide +kernel
theorem dX1_statesLike_64 : decode cX1_statesLike 64 = .ok (.istore 10, 2) := by decide +kernel
theorem dX1_statesLike_66 : decode cX1_statesLike 66 = .ok (.aload_n 1, 1) := by decide +kernel
theorem dX1_statesLike_67 : decode cX1_statesLike 67 = .ok (.iload_n 2, 1) := by decide +kernel
theorem dX1_statesLike_68 : decode cX1_statesLike 68 = .ok (.iload 9, 2) := by decide +kernel
theorem dX1_statesLike_70 : decode cX1_statesLike 70 = .ok (.invokevirtual 65, 3) := by decide +kernel
theorem dX1_statesLike_73 : decode cX1_statesLike 73 = .ok (.aload_n 1, 1) := by decide +kernel
theorem dX1_statesLike_74 : decode cX1_statesLike 74 = .ok (.iload 4, 2) := by decide +kernel
theorem dX1_statesLike_76 : decode cX1_statesLike 76 = .ok (.iload 10, 2) := by decide +kernel
theorem dX1_statesLike_78 : decode cX1_statesLike 78 = .ok (.invokevirtual 65, 3) := by decide +kernel
theorem dX1_statesLike_81 : decode cX1_statesLike 81 = .ok (.if_icmp .eq 5, 3) := by decide +kernel
theorem dX1_statesLike_84 : decode cX1_statesLike 84 = .ok (.iconst 0, 1) := by decide +kernel
theorem dX1_statesLike_85 : decode cX1_statesLike 85 = .ok (.ireturn, 1) := by decide +kernel
theorem dX1_statesLike_86 : decode cX1_statesLike 86 = .ok (.iconst 0, 1) := by decide +kernel
theorem dX1_statesLike_87 : decode cX1_statesLike 87 = .ok (.istore 11, 2) := by decide +kernel
theorem dX1_statesLike_89 : decode cX1_statesLike 89 = .ok (.iload 11, 2) := by decide +kernel
theorem dX1_statesLike_91 : decode cX1_statesLike 91 = .ok (.iconst 3, 1) := by decide +kernel
theorem dX1_statesLike_92 : decode cX1_statesLike 92 = .ok (.if_icmp .ge 64, 3) := by decide +kernel
theorem dX1_statesLike_95 : decode cX1_statesLike 95 = .ok (.aload_n 1, 1) := by decide +kernel
theorem dX1_statesLike_96 : decode cX1_statesLike 96 = .ok (.iload_n 2, 1) := by decide +kernel
theorem dX1_statesLike_97 : decode cX1_statesLike 97 = .ok (.iload 9, 2) := by decide +kernel
theorem dX1_statesLike_99 : decode cX1_statesLike 99 = .ok (.iload 11, 2) := by decide +kernel
theorem dX1_statesLike_101 : decode cX1_statesLike 101 = .ok (.invokevirtual 51, 3) := by decide +kernel
theorem dX1_statesLike_104 : decode cX1_statesLike 104 = .ok (.aload_n 1, 1) := by decide +kernel
theorem dX1_statesLike_105 : decode cX1_statesLike 105 = .ok (.iload 4, 2) := by decide +kernel
theorem dX1_statesLike_107 : decode cX1_statesLike 107 = .ok (.iload 10, 2) := by decide +kernel
theorem dX1_statesLike_109 : decode cX1_statesLike 109 = .ok (.iload 11, 2) := by decide +kernel
theorem dX1_statesLike_111 : decode cX1_statesLike 111 = .ok (.invokevirtual 51, 3) := by decide +kernel
theorem dX1_statesLike_114 : decode cX1_statesLike 114 = .ok (.invokestatic 55, 3) := by decide +kernel
theorem dX1_statesLike_117 : decode cX1_statesLike 117 = .ok (.istore 12, 2) := by decide +kernel
theorem dX1_statesLike_119 : decode cX1_statesLike 119 = .ok (.iload 6, 2) := by decide +kernel
theorem dX1_statesLike_121 : decode cX1_statesLike 121 = .ok (.iload 12, 2) := by decide +kernel
theorem dX1_statesLike_123 : decode cX1_statesLike 123 = .ok (.invokestatic 41, 3) := by decide +kernel
theorem dX1_statesLike_126 : decode cX1_statesLike 126 = .ok (.ifCond .ne 24, 3) := by decide +kernel
theorem dX1_statesLike_129 : decode cX1_statesLike 129 = .ok (.iload 6, 2) := by decide +kernel
theorem dX1_statesLike_131 : decode cX1_statesLike 131 = .ok (.iconst 1, 1) := by decide +kernel
theorem dX1_statesLike_132 : decode cX1_statesLike 132 = .ok (.iload 12, 2) := by decide +kernel
theorem dX1_statesLike_134 : decode cX1_statesLike 134 = .ok (.ishl, 1) := by decide +kernel
theorem dX1_statesLike_135 : decode cX1_statesLike 135 = .ok (.ior, 1) := by decide +kernel
theorem dX1_statesLike_136 : decode cX1_statesLike 136 = .ok (.istore 6, 2) := by decide +kernel
theorem dX1_statesLike_138 : decode cX1_statesLike 138 = .ok (.aload_n 0, 1) := by decide +kernel
theorem dX1_statesLike_139 : decode cX1_statesLike 139 = .ok (.getfield 9, 3) := by decide +kernel
theorem dX1_statesLike_142 : decode cX1_statesLike 142 = .ok (.iload 7, 2) := by decide +kernel
theorem dX1_statesLike_144 : decode cX1_statesLike 144 = .ok (.iload 12, 2) := by decide +kernel
theorem dX1_statesLike_146 : decode cX1_statesLike 146 = .ok (.iastore, 1) := by decide +kernel
theorem dX1_statesLike_147 : decode cX1_statesLike 147 = .ok (.iinc 7 1, 3) := by decide +kernel
theorem dX1_statesLike_150 : decode cX1_statesLike 150 = .ok (.iinc 11 1, 3) := by decide +kernel
theorem dX1_statesLike_153 : decode cX1_statesLike 153 = .ok (.goto (-64), 3) := by decide +kernel
theorem dX1_statesLike_156 : decode cX1_statesLike 156 = .ok (.iinc 8 1, 3) := by decide +kernel
theorem dX1_statesLike_159 : decode cX1_statesLike 159 = .ok (.goto (-131), 3) := by decide +kernel
theorem dX1_statesLike_162 : decode cX1_statesLike 162 = .ok (.iconst 1, 1) := by decide +kernel
theorem dX1_statesLike_163 : decode cX1_statesLike 163 = .ok (.ireturn, 1) := by decide +kernel
theorem dX2_init_0 : decode cX2_init 0 = .ok (.aload_n 0, 1) := by decide +kernel
theorem dX2_init_1 : decode cX2_init 1 = .ok (.invokespecial 1, 3) := by decide +kernel
theorem dX2_init_4 : decode cX2_init 4 = .ok (.aload_n 0, 1) := by decide +kernel
theorem dX2_init_5 : decode cX2_init 5 = .ok (.bipush 12, 2) := by decide +kernel
theorem dX2_init_7 : decode cX2_init 7 = .ok (.newarray .int, 2) := by decide +kernel
theorem dX2_init_9 : decode cX2_init 9 = .ok (.putfield 9, 3) := by decide +kernel
theorem dX2_init_12 : decode cX2_init 12 = .ok (.aload_n 0, 1) := by decide +kernel
theorem dX2_init_13 : decode cX2_init 13 = .ok (.bipush 48, 2) := by decide +kernel
theorem dX2_init_15 : decode cX2_init 15 = .ok (.newarray .int, 2) := by decide +kernel
theorem dX2_init_17 : decode cX2_init 17 = .ok (.putfield 13, 3) := by decide +kernel
theorem dX2_init_20 : decode cX2_init 20 = .ok (.aload_n 0, 1) := by decide +kernel
theorem dX2_init_21 : decode cX2_init 21 = .ok (.sipush 144, 3) := by decide +kernel
theorem dX2_init_24 : decode cX2_init 24 = .ok (.newarray .int, 2) := by decide +kernel
theorem dX2_init_26 : decode cX2_init 26 = .ok (.putfield 18, 3) := by decide +kernel
theorem dX2_init_29 : decode cX2_init 29 = .ok (.aload_n 0, 1) := by decide +kernel
theorem dX2_init_30 : decode cX2_init 30 = .ok (.iconst 0, 1) := by decide +kernel
theorem dX2_init_31 : decode cX2_init 31 = .ok (.putfield 21, 3) := by decide +kernel
theorem dX2_init_34 : decode cX2_init 34 = .ok (.return_, 1) := by decide +kernel
theorem dX2_many_0 : decode cX2_many 0 = .ok (.aload_n 0, 1) := by decide +kernel
theorem dX2_many_1 : decode cX2_many 1 = .ok (.getfield 21, 3) := by decide +kernel
theorem dX2_many_4 : decode cX2_many 4 = .ok (.ireturn, 1) := by decide +kernel
theorem dX2_isFull_0 : decode cX2_isFull 0 = .ok (.aload_n 0, 1) := by decide +kernel
theorem dX2_isFull_1 : decode cX2_isFull 1 = .ok (.getfield 21, 3) := by decide +kernel
theorem dX2_isFull_4 : decode cX2_isFull 4 = .ok (.bipush 12, 2) := by decide +kernel
theorem dX2_isFull_6 : decode cX2_isFull 6 = .ok (.if_icmp .lt 7, 3) := by decide +kernel
theorem dX2_isFull_9 : decode cX2_isFull 9 = .ok (.iconst 1, 1) := by decide +kernel
theorem dX2_isFull_10 : decode cX2_isFull 10 = .ok (.goto 4, 3) := by decide +kernel
theorem dX2_isFull_13 : decode cX2_isFull 13 = .ok (.iconst 0, 1) := by decide +kernel
theorem dX2_isFull_14 : decode cX2_isFull 14 = .ok (.ireturn, 1) := by decide +kernel
theorem dX2_has_0 : decode cX2_has 0 = .ok (.iload_n 1, 1) := by decide +kernel
theorem dX2_has_1 : decode cX2_has 1 = .ok (.ifCond .lt 15, 3) := by decide +kernel
theorem dX2_has_4 : decode cX2_has 4 = .ok (.iload_n 1, 1) := by decide +kernel
theorem dX2_has_5 : decode cX2_has 5 = .ok (.aload_n 0, 1) := by decide +kernel
theorem dX2_has_6 : decode cX2_has 6 = .ok (.getfield 21, 3) := by decide +kernel
theorem dX2_has_9 : decode cX2_has 9 = .ok (.if_icmp .ge 7, 3) := by decide +kernel
theorem dX2_has_12 : decode cX2_has 12 = .ok (.iconst 1, 1) := by decide +kernel
theorem dX2_has_13 : decode cX2_has 13 = .ok (.goto 4, 3) := by decide +kernel
theorem dX2_has_16 : decode cX2_has 16 = .ok (.iconst 0, 1) := by decide +kernel
theorem dX2_has_17 : decode cX2_has 17 = .ok (.ireturn, 1) := by decide +kernel
set_option maxRecDepth 20000 in
theorem ggX2_hasState_X2_has : GoodIn wsX2_hasState wsX2_has := goodIn_r _ [6, 7, 8, 9, 10, 11] (by decide +kernel) (by decide +kernel)
set_option maxRecDepth 20000 in
theorem gX2_hasState_X2_has : GoodIn wsX2_hasState (wsV RX2 25 RX2 yX2_has wsX2_has) := goodIn_app (goodIn_of _ (by decide +kernel)) ggX2_hasState_X2_has
theorem dX2_hasState_0 : decode cX2_hasState 0 = .ok (.aload_n 0, 1) := by decide +kernel
theorem dX2_hasState_1 : decode cX2_hasState 1 = .ok (.iload_n 1, 1) := by decide +kernel
theorem dX2_hasState_2 : decode cX2_hasState 2 = .ok (.invokevirtual 25, 3) := by decide +kernel
theorem dX2_hasState_5 : decode cX2_hasState 5 = .ok (.ifCond .eq 21, 3) := by decide +kernel
theorem dX2_hasState_8 : decode cX2_hasState 8 = .ok (.iload_n 2, 1) := by decide +kernel
theorem dX2_hasState_9 : decode cX2_hasState 9 = .ok (.ifCond .lt 17, 3) := by decide +kernel
theorem dX2_hasState_12 : decode cX2_hasState 12 = .ok (.iload_n 2, 1) := by decide +kernel
theorem dX2_hasState_13 : decode cX2_hasState 13 = .ok (.aload_n 0, 1) := by decide +kernel
theorem dX2_hasState_14 : decode cX2_hasState 14 = .ok (.getfield 9, 3) := by decide +kernel
theorem dX2_hasState_17 : decode cX2_hasState 17 = .ok (.iload_n 1, 1) := by decide +kernel
theorem dX2_hasState_18 : decode cX2_hasState 18 = .ok (.iaload, 1) := by decide +kernel
theorem dX2_hasState_19 : decode cX2_hasState 19 = .ok (.if_icmp .ge 7, 3) := by decide +kernel
theorem dX2_hasState_22 : decode cX2_hasState 22 = .ok (.iconst 1, 1) := by decide +kernel
theorem dX2_hasState_23 : decode cX2_hasState 23 = .ok (.goto 4, 3) := by decide +kernel
theorem dX2_hasState_26 : decode cX2_hasState 26 = .ok (.iconst 0, 1) := by decide +kernel
theorem dX2_hasState_27 : decode cX2_hasState 27 = .ok (.ireturn, 1) := by decide +kernel
theorem dX2_statesOf_0 : decode cX2_statesOf 0 = .ok (.aload_n 0, 1) := by decide +kernel
theorem dX2_statesOf_1 : decode cX2_statesOf 1 = .ok (.getfield 9, 3) := by decide +kernel
theorem dX2_statesOf_4 : decode cX2_statesOf 4 = .ok (.iload_n 1, 1) := by decide +kernel
theorem dX2_statesOf_5 : decode cX2_statesOf 5 = .ok (.iaload, 1) := by decide +kernel
theorem dX2_statesOf_6 : decode cX2_statesOf 6 = .ok (.ireturn, 1) := by decide +kernel
set_option maxRecDepth 20000 in
theorem ggX2_add_X2_setAction : GoodIn wsX2_add wsX2_setAction := goodIn_r _ [7, 8, 14, 15, 16, 17] (by decide +kernel) (by decide +kernel)
set_option maxRecDepth 20000 in
theorem gX2_add_X2_setAction : GoodIn wsX2_add (wsV RX2 29 RX2 yX2_setAction wsX2_setAction) := goodIn_app (goodIn_of _ (by decide +kernel)) ggX2_add_X2_setAction
set_option maxRecDepth 20000 in
theorem ggX2_add_X2_setNext : GoodIn wsX2_add wsX2_setNext := goodIn_r _ [12, 13, 14, 15, 16, 17] (by decide +kernel) (by decide +kernel)
set_option maxRecDepth 20000 in
theorem gX2_add_X2_setNext : GoodIn wsX2_add (wsV RX2 33 RX2 yX2_setNext wsX2_setNext) := goodIn_app (goodIn_of _ (by decide +kernel)) ggX2_add_X2_setNext
theorem dX2_add_0 : decode cX2_add 0 = .ok (.aload_n 0, 1) := by decide +kernel
theorem dX2_add_1 : decode cX2_add 1 = .ok (.getfield 21, 3) := by decide +kernel
theorem dX2_add_4 : decode cX2_add 4 = .ok (.istore_n 2, 1) := by decide +kernel
theorem dX2_add_5 : decode cX2_add 5 = .ok (.aload_n 0, 1) := by decide +kernel
theorem dX2_add_6 : decode cX2_add 6 = .ok (.dup, 1) := by decide +kernel
theorem dX2_add_7 : decode cX2_add 7 = .ok (.getfield 21, 3) := by decide +kernel
theorem dX2_add_10 : decode cX2_add 10 = .ok (.iconst 1, 1) := by decide +kernel
theorem dX2_add_11 : decode cX2_add 11 = .ok (.iadd, 1) := by decide +kernel
theorem dX2_add_12 : decode cX2_add 12 = .ok (.putfield 21, 3) := by decide +kernel
theorem dX2_add_15 : decode cX2_add 15 = .ok (.aload_n 0, 1) := by decide +kernel
theorem dX2_add_16 : decode cX2_add 16 = .ok (.getfield 9, 3) := by decide +kernel
theorem dX2_add_19 : decode cX2_add 19 = .ok (.iload_n 2, 1) := by decide +kernel
theorem dX2_add_20 : decode cX2_add 20 = .ok (.iload_n 1, 1) := by decide +kernel
theorem dX2_add_21 : decode cX2_add 21 = .ok (.iastore, 1) := by decide +kernel
theorem dX2_add_22 : decode cX2_add 22 = .ok (.iconst 0, 1) := by decide +kernel
theorem dX2_add_23 : decode cX2_add 23 = .ok (.istore_n 3, 1) := by decide +kernel
theorem dX2_add_24 : decode cX2_add 24 = .ok (.iload_n 3, 1) := by decide +kernel
theorem dX2_add_25 : decode cX2_add 25 = .ok (.iload_n 1, 1) := by decide +kernel
theorem dX2_add_26 : decode cX2_add 26 = .ok (.if_icmp .ge 40, 3) := by decide +kernel
theorem dX2_add_29 : decode cX2_add 29 = .ok (.aload_n 0, 1) := by decide +kernel
theorem dX2_add_30 : decode cX2_add 30 = .ok (.iload_n 2, 1) := by decide +kernel
theorem dX2_add_31 : decode cX2_add 31 = .ok (.iload_n 3, 1) := by decide +kernel
theorem dX2_add_32 : decode cX2_add 32 = .ok (.iconst 0, 1) := by decide +kernel
theorem dX2_add_33 : decode cX2_add 33 = .ok (.invokevirtual 29, 3) := by decide +kernel
theorem dX2_add_36 : decode cX2_add 36 = .ok (.iconst 0, 1) := by decide +kernel
theorem dX2_add_37 : decode cX2_add 37 = .ok (.istore 4, 2) := by decide +kernel
theorem dX2_add_39 : decode cX2_add 39 = .ok (.iload 4, 2) := by decide +kernel
theorem dX2_add_41 : decode cX2_add 41 = .ok (.iconst 3, 1) := by decide +kernel
theorem dX2_add_42 : decode cX2_add 42 = .ok (.if_icmp .ge 18, 3) := by decide +kernel
theorem dX2_add_45 : decode cX2_add 45 = .ok (.aload_n 0, 1) := by decide +kernel
theorem dX2_add_46 : decode cX2_add 46 = .ok (.iload_n 2, 1) := by decide +kernel
theorem dX2_add_47 : decode cX2_add 47 = .ok (.iload_n 3, 1) := by decide +kernel
theorem dX2_add_48 : decode cX2_add 48 = .ok (.iload 4, 2) := by decide +kernel
theorem dX2_add_50 : decode cX2_add 50 = .ok (.iload_n 3, 1) := by decide +kernel
theorem dX2_add_51 : decode cX2_add 51 = .ok (.invokevirtual 33, 3) := by decide +kernel
theorem dX2_add_54 : decode cX2_add 54 = .ok (.iinc 4 1, 3) := by decide +kernel
theorem dX2_add_57 : decode cX2_add 57 = .ok (.goto (-18), 3) := by decide +kernel
theorem dX2_add_60 : decode cX2_add 60 = .ok (.iinc 3 1, 3) := by decide +kernel
theorem dX2_add_63 : decode cX2_add 63 = .ok (.goto (-39), 3) := by decide +kernel
theorem dX2_add_66 : decode cX2_add 66 = .ok (.iload_n 2, 1) := by decide +kernel
theorem dX2_add_67 : decode cX2_add 67 = .ok (.ireturn, 1) := by decide +kernel
theorem dX2_removeLatest_0 : decode cX2_removeLatest 0 = .ok (.aload_n 0, 1) := by decide +kernel
theorem dX2_removeLatest_1 : decode cX2_removeLatest 1 = .ok (.dup, 1) := by decide +kernel
theorem dX2_removeLatest_2 : decode cX2_removeLatest 2 = .ok (.getfield 21, 3) := by decide +kernel
theorem dX2_removeLatest_5 : decode cX2_removeLatest 5 = .ok (.iconst 1, 1) := by decide +kernel
theorem dX2_removeLatest_6 : decode cX2_removeLatest 6 = .ok (.isub, 1) := by decide +kernel
theorem dX2_removeLatest_7 : decode cX2_removeLatest 7 = .ok (.putfield 21, 3) := by decide +kernel
theorem dX2_removeLatest_10 : decode cX2_removeLatest 10 = .ok (.aload_n 0, 1) := by decide +kernel
theorem dX2_removeLatest_11 : decode cX2_removeLatest 11 = .ok (.getfield 21, 3) := by decide +kernel
theorem dX2_removeLatest_14 : decode cX2_removeLatest 14 = .ok (.ireturn, 1) := by decide +kernel
theorem dX2_setAction_0 : decode cX2_setAction 0 = .ok (.aload_n 0, 1) := by decide +kernel
theorem dX2_setAction_1 : decode cX2_setAction 1 = .ok (.getfield 13, 3) := by decide +kernel
theorem dX2_setAction_4 : decode cX2_setAction 4 = .ok (.iconst 4, 1) := by decide +kernel
theorem dX2_setAction_5 : decode cX2_setAction 5 = .ok (.iload_n 1, 1) := by decide +kernel
theorem dX2_setAction_6 : decode cX2_setAction 6 = .ok (.imul, 1) := by decide +kernel
theorem dX2_setAction_7 : decode cX2_setAction 7 = .ok (.iload_n 2, 1) := by decide +kernel
theorem dX2_setAction_8 : decode cX2_setAction 8 = .ok (.iadd, 1) := by decide +kernel
theorem dX2_setAction_9 : decode cX2_setAction 9 = .ok (.iload_n 3, 1) := by decide +kernel
theorem dX2_setAction_10 : decode cX2_setAction 10 = .ok (.iastore, 1) := by decide +kernel
theorem dX2_setAction_11 : decode cX2_setAction 11 = .ok (.return_, 1) := by decide +kernel
theorem dX2_actionOf_0 : decode cX2_actionOf 0 = .ok (.aload_n 0, 1) := by decide +kernel
theorem dX2_actionOf_1 : decode cX2_actionOf 1 = .ok (.getfield 13, 3) := by decide +kernel
theorem dX2_actionOf_4 : decode cX2_actionOf 4 = .ok (.iconst 4, 1) := by decide +kernel
theorem dX2_actionOf_5 : decode cX2_actionOf 5 = .ok (.iload_n 1, 1) := by decide +kernel
theorem dX2_actionOf_6 : decode cX2_actionOf 6 = .ok (.imul, 1) := by decide +kernel
theorem dX2_actionOf_7 : decode cX2_actionOf 7 = .ok (.iload_n 2, 1) := by decide +kernel
theorem dX2_actionOf_8 : decode cX2_actionOf 8 = .ok (.iadd, 1) := by decide +kernel
theorem dX2_actionOf_9 : decode cX2_actionOf 9 = .ok (.iaload, 1) := by decide +kernel
theorem dX2_actionOf_10 : decode cX2_actionOf 10 = .ok (.ireturn, 1) := by decide +kernel
theorem dX2_setNext_0 : decode cX2_setNext 0 = .ok (.aload_n 0, 1) := by decide +kernel
theorem dX2_setNext_1 : decode cX2_setNext 1 = .ok (.getfield 18, 3) := by decide +kernel
theorem dX2_setNext_4 : decode cX2_setNext 4 = .ok (.iconst 4, 1) := by decide +kernel
theorem dX2_setNext_5 : decode cX2_setNext 5 = .ok (.iload_n 1, 1) := by decide +kernel
theorem dX2_setNext_6 : decode cX2_setNext 6 = .ok (.imul, 1) := by decide +kernel
theorem dX2_setNext_7 : decode cX2_setNext 7 = .ok (.iload_n 2, 1) := by decide +kernel
theorem dX2_setNext_8 : decode cX2_setNext 8 = .ok (.iadd, 1) := by decide +kernel
theorem dX2_setNext_9 : decode cX2_setNext 9 = .ok (.iconst 3, 1) := by decide +kernel
theorem dX2_setNext_10 : decode cX2_setNext 10 = .ok (.imul, 1) := by decide +kernel
theorem dX2_setNext_11 : decode cX2_setNext 11 = .ok (.iload_n 3, 1) := by decide +kernel
theorem dX2_setNext_12 : decode cX2_setNext 12 = .ok (.iadd, 1) := by decide +kernel
theorem dX2_setNext_13 : decode cX2_setNext 13 = .ok (.iload 4, 2) := by decide +kernel
theorem dX2_setNext_15 : decode cX2_setNext 15 = .ok (.iastore, 1) := by decide +kernel
theorem dX2_setNext_16 : decode cX2_setNext 16 = .ok (.return_, 1) := by decide +kernel
theorem dX2_nextOf_0 : decode cX2_nextOf 0 = .ok (.aload_n 0, 1) := by decide +kernel
theorem dX2_nextOf_1 : decode cX2_nextOf 1 = .ok (.getfield 18, 3) := by decide +kernel
theorem dX2_nextOf_4 : decode cX2_nextOf 4 = .ok (.iconst 4, 1) := by decide +kernel
theorem dX2_nextOf_5 : decode cX2_nextOf 5 = .ok (.iload_n 1, 1) := by decide +kernel
theorem dX2_nextOf_6 : decode cX2_nextOf 6 = .ok (.imul, 1) := by decide +kernel
theorem dX2_nextOf_7 : decode cX2_nextOf 7 = .ok (.iload_n 2, 1) := by decide +kernel
theorem dX2_nextOf_8 : decode cX2_nextOf 8 = .ok (.iadd, 1) := by decide +kernel
theorem dX2_nextOf_9 : decode cX2_nextOf 9 = .ok (.iconst 3, 1) := by decide +kernel
theorem dX2_nextOf_10 : decode cX2_nextOf 10 = .ok (.imul, 1) := by decide +kernel
theorem dX2_nextOf_11 : decode cX2_nextOf 11 = .ok (.iload_n 3, 1) := by decide +kernel
theorem dX2_nextOf_12 : decode cX2_nextOf 12 = .ok (.iadd, 1) := by decide +kernel
theorem dX2_nextOf_13 : decode cX2_nextOf 13 = .ok (.iaload, 1) := by decide +kernel
theorem dX2_nextOf_14 : decode cX2_nextOf 14 = .ok (.ireturn, 1) := by decide +kernel
set_option maxRecDepth 20000 in
theorem ggX3_init_X6_init : GoodIn wsX3_init wsX6_init := goodIn_r _ [18, 19, 2, 3, 4, 20, 21, 22, 23, 24, 25, 36, 37, 38, 39, 40, 41] (by decide +kernel) (by decide +kernel)
set_option maxRecDepth 20000 in
theorem gX3_init_X6_init_n24 : GoodIn wsX3_init (wsX6_init) := ggX3_init_X6_init
set_option maxRecDepth 20000 in
theorem ggX3_init_X4_init : GoodIn wsX3_init wsX4_init := goodIn_r _ [27, 28, 2, 3, 29, 30, 42, 43] (by decide +kernel) (by decide +kernel)
set_option maxRecDepth 20000 in
theorem gX3_init_X4_init_n31 : GoodIn wsX3_init (wsX4_init) := ggX3_init_X4_init
theorem dX3_init_0 : decode cX3_init 0 = .ok (.aload_n 0, 1) := by decide +kernel
theorem dX3_init_1 : decode cX3_init 1 = .ok (.invokespecial 3, 3) := by decide +kernel
theorem dX3_init_4 : decode cX3_init 4 = .ok (.aload_n 0, 1) := by decide +kernel
theorem dX3_init_5 : decode cX3_init 5 = .ok (.bipush 48, 2) := by decide +kernel
theorem dX3_init_7 : decode cX3_init 7 = .ok (.newarray .int, 2) := by decide +kernel
theorem dX3_init_9 : decode cX3_init 9 = .ok (.putfield 11, 3) := by decide +kernel
theorem dX3_init_12 : decode cX3_init 12 = .ok (.aload_n 0, 1) := by decide +kernel
theorem dX3_init_13 : decode cX3_init 13 = .ok (.bipush 48, 2) := by decide +kernel
theorem dX3_init_15 : decode cX3_init 15 = .ok (.newarray .long, 2) := by decide +kernel
theorem dX3_init_17 : decode cX3_init 17 = .ok (.putfield 15, 3) := by decide +kernel
theorem dX3_init_20 : decode cX3_init 20 = .ok (.aload_n 0, 1) := by decide +kernel
theorem dX3_init_21 : decode cX3_init 21 = .ok (.bipush 48, 2) := by decide +kernel
theorem dX3_init_23 : decode cX3_init 23 = .ok (.newarray .long, 2) := by decide +kernel
theorem dX3_init_25 : decode cX3_init 25 = .ok (.putfield 19, 3) := by decide +kernel
theorem dX3_init_28 : decode cX3_init 28 = .ok (.aload_n 0, 1) := by decide +kernel
theorem dX3_init_29 : decode cX3_init 29 = .ok (.new 22, 3) := by decide +kernel
theorem dX3_init_32 : decode cX3_init 32 = .ok (.dup, 1) := by decide +kernel
theorem dX3_init_33 : decode cX3_init 33 = .ok (.invokespecial 24, 3) := by decide +kernel
theorem dX3_init_36 : decode cX3_init 36 = .ok (.putfield 25, 3) := by decide +kernel
theorem dX3_init_39 : decode cX3_init 39 = .ok (.aload_n 0, 1) := by decide +kernel
theorem dX3_init_40 : decode cX3_init 40 = .ok (.new 29, 3) := by decide +kernel
theorem dX3_init_43 : decode cX3_init 43 = .ok (.dup, 1) := by decide +kernel
theorem dX3_init_44 : decode cX3_init 44 = .ok (.invokespecial 31, 3) := by decide +kernel
theorem dX3_init_47 : decode cX3_init 47 = .ok (.putfield 32, 3) := by decide +kernel
theorem dX3_init_50 : decode cX3_init 50 = .ok (.return_, 1) := by decide +kernel
theorem dX3_plansAgainst_0 : decode cX3_plansAgainst 0 = .ok (.iconst 1, 1) := by decide +kernel
theorem dX3_plansAgainst_1 : decode cX3_plansAgainst 1 = .ok (.istore_n 1, 1) := by decide +kernel
theorem dX3_plansAgainst_2 : decode cX3_plansAgainst 2 = .ok (.iconst 0, 1) := by decide +kernel
theorem dX3_plansAgainst_3 : decode cX3_plansAgainst 3 = .ok (.istore_n 2, 1) := by decide +kernel
theorem dX3_plansAgainst_4 : decode cX3_plansAgainst 4 = .ok (.iload_n 2, 1) := by decide +kernel
theorem dX3_plansAgainst_5 : decode cX3_plansAgainst 5 = .ok (.iload_n 0, 1) := by decide +kernel
theorem dX3_plansAgainst_6 : decode cX3_plansAgainst 6 = .ok (.if_icmp .ge 13, 3) := by decide +kernel
theorem dX3_plansAgainst_9 : decode cX3_plansAgainst 9 = .ok (.iload_n 1, 1) := by decide +kernel
theorem dX3_plansAgainst_10 : decode cX3_plansAgainst 10 = .ok (.iconst 3, 1) := by decide +kernel
theorem dX3_plansAgainst_11 : decode cX3_plansAgainst 11 = .ok (.imul, 1) := by decide +kernel
theorem dX3_plansAgainst_12 : decode cX3_plansAgainst 12 = .ok (.istore_n 1, 1) := by decide +kernel
theorem dX3_plansAgainst_13 : decode cX3_plansAgainst 13 = .ok (.iinc 2 1, 3) := by decide +kernel
theorem dX3_plansAgainst_16 : decode cX3_plansAgainst 16 = .ok (.goto (-12), 3) := by decide +kernel
theorem dX3_plansAgainst_19 : decode cX3_plansAgainst 19 = .ok (.iload_n 1, 1) := by decide +kernel
theorem dX3_plansAgainst_20 : decode cX3_plansAgainst 20 = .ok (.ireturn, 1) := by decide +kernel
theorem dX3_slotOf_0 : decode cX3_slotOf 0 = .ok (.iload_n 0, 1) := by decide +kernel
theorem dX3_slotOf_1 : decode cX3_slotOf 1 = .ok (.iconst 4, 1) := by decide +kernel
theorem dX3_slotOf_2 : decode cX3_slotOf 2 = .ok (.imul, 1) := by decide +kernel
theorem dX3_slotOf_3 : decode cX3_slotOf 3 = .ok (.iload_n 1, 1) := by decide +kernel
theorem dX3_slotOf_4 : decode cX3_slotOf 4 = .ok (.iadd, 1) := by decide +kernel
theorem dX3_slotOf_5 : decode cX3_slotOf 5 = .ok (.ireturn, 1) := by decide +kernel
set_option maxRecDepth 20000 in
theorem ggX3_weigh_X6_takePlan : GoodIn wsX3_weigh wsX6_takePlan := goodIn_r _ [6, 7, 8, 9, 10, 11, 12, 13, 14, 15, 16, 17, 18, 19, 20, 21, 22, 23, 24, 25, 26, 27, 28, 29, 30, 83, 84, 85, 86, 87, 88, 89, 90, 91, 92, 93, 94, 95] (by decide +kernel) (by decide +kernel)
set_option maxRecDepth 20000 in
theorem gX3_weigh_X6_takePlan : GoodIn wsX3_weigh (wsV RX3 38 RX6 yX6_takePlan wsX6_takePlan) := goodIn_app (goodIn_of _ (by decide +kernel)) ggX3_weigh_X6_takePlan
set_option maxRecDepth 20000 in
theorem ggX3_weigh_X6_startAt : GoodIn wsX3_weigh wsX6_startAt := goodIn_r _ [34, 35, 36, 7, 37, 38, 39, 40, 41, 42, 83, 84, 85, 86, 87, 88] (by decide +kernel) (by decide +kernel)
set_option maxRecDepth 20000 in
theorem gX3_weigh_X6_startAt : GoodIn wsX3_weigh (wsV RX3 42 RX6 yX6_startAt wsX6_startAt) := goodIn_app (goodIn_of _ (by decide +kernel)) ggX3_weigh_X6_startAt
set_option maxRecDepth 20000 in
theorem ggX3_weigh_X6_worthInto : GoodIn wsX3_weigh wsX6_worthInto := goodIn_r _ [46, 38, 37, 47, 48, 49, 28, 50, 51, 52, 53, 54, 55, 56, 57, 58, 5, 59, 60, 61, 62, 63, 8, 36, 64, 65, 66, 67, 68, 69, 70, 71, 72, 73, 74, 75, 76, 77, 83, 84, 85, 86, 87, 88, 93, 94, 95, 96, 97] (by decide +kernel) (by decide +kernel)
set_option maxRecDepth 20000 in
theorem gX3_weigh_X6_worthInto : GoodIn wsX3_weigh (wsV RX3 46 RX6 yX6_worthInto wsX6_worthInto) := goodIn_app (goodIn_of _ (by decide +kernel)) ggX3_weigh_X6_worthInto
theorem dX3_weigh_0 : decode cX3_weigh 0 = .ok (.aload_n 0, 1) := by decide +kernel
theorem dX3_weigh_1 : decode cX3_weigh 1 = .ok (.getfield 25, 3) := by decide +kernel
theorem dX3_weigh_4 : decode cX3_weigh 4 = .ok (.aload_n 1, 1) := by decide +kernel
theorem dX3_weigh_5 : decode cX3_weigh 5 = .ok (.aload_n 2, 1) := by decide +kernel
theorem dX3_weigh_6 : decode cX3_weigh 6 = .ok (.iload_n 3, 1) := by decide +kernel
theorem dX3_weigh_7 : decode cX3_weigh 7 = .ok (.iload 5, 2) := by decide +kernel
theorem dX3_weigh_9 : decode cX3_weigh 9 = .ok (.invokevirtual 38, 3) := by decide +kernel
theorem dX3_weigh_12 : decode cX3_weigh 12 = .ok (.aload_n 0, 1) := by decide +kernel
theorem dX3_weigh_13 : decode cX3_weigh 13 = .ok (.getfield 25, 3) := by decide +kernel
theorem dX3_weigh_16 : decode cX3_weigh 16 = .ok (.iload 4, 2) := by decide +kernel
theorem dX3_weigh_18 : decode cX3_weigh 18 = .ok (.invokevirtual 42, 3) := by decide +kernel
theorem dX3_weigh_21 : decode cX3_weigh 21 = .ok (.aload_n 0, 1) := by decide +kernel
theorem dX3_weigh_22 : decode cX3_weigh 22 = .ok (.getfield 25, 3) := by decide +kernel
theorem dX3_weigh_25 : decode cX3_weigh 25 = .ok (.aload_n 1, 1) := by decide +kernel
theorem dX3_weigh_26 : decode cX3_weigh 26 = .ok (.aload 6, 2) := by decide +kernel
theorem dX3_weigh_28 : decode cX3_weigh 28 = .ok (.invokevirtual 46, 3) := by decide +kernel
theorem dX3_weigh_31 : decode cX3_weigh 31 = .ok (.return_, 1) := by decide +kernel
set_option maxRecDepth 20000 in
theorem ggX3_learn_X3_weigh : GoodIn wsX3_learn wsX3_weigh := goodIn_r _ [6, 7, 8, 9, 10, 11, 12, 13, 14, 15, 16, 17, 18, 19, 20, 21, 22, 23, 24, 25, 26, 27, 28, 29, 30, 31, 32, 33, 34, 35, 36, 37, 38, 39, 40, 41, 42, 43, 44, 45, 46, 47, 48, 49, 50, 51, 52, 53, 54, 55, 56, 57, 58, 59, 60, 61, 62, 63, 64, 65, 66, 67, 68, 69, 70, 71, 72, 73, 74, 75, 76, 77, 78, 79, 80, 81, 82, 83, 114, 115, 116, 117, 118, 119, 120, 121, 122, 123, 124, 125, 126, 127, 128, 129, 130, 131, 132, 133] (by decide +kernel) (by decide +kernel)
set_option maxRecDepth 20000 in
theorem gX3_learn_X3_weigh : GoodIn wsX3_learn (wsV RX3 50 RX3 yX3_weigh wsX3_weigh) := goodIn_app (goodIn_of _ (by decide +kernel)) ggX3_learn_X3_weigh
set_option maxRecDepth 20000 in
theorem ggX3_learn_X3_slotOf : GoodIn wsX3_learn wsX3_slotOf := goodIn_r _ [86] (by decide +kernel) (by decide +kernel)
set_option maxRecDepth 20000 in
theorem gX3_learn_X3_slotOf : GoodIn wsX3_learn (va_wsS RX3 54 yX3_slotOf wsX3_slotOf) := goodIn_app (goodIn_of _ (by decide +kernel)) ggX3_learn_X3_slotOf
set_option maxRecDepth 20000 in
theorem ggX3_learn_X3_keep : GoodIn wsX3_learn wsX3_keep := goodIn_r _ [90, 91, 92, 1, 93, 94, 95, 96, 73, 97, 79, 80, 114, 115, 116, 117, 118, 132, 133] (by decide +kernel) (by decide +kernel)
set_option maxRecDepth 20000 in
theorem gX3_learn_X3_keep : GoodIn wsX3_learn (wsV RX3 58 RX3 yX3_keep wsX3_keep) := goodIn_app (goodIn_of _ (by decide +kernel)) ggX3_learn_X3_keep
set_option maxRecDepth 20000 in
theorem ggX3_learn_X2_statesOf : GoodIn wsX3_learn wsX2_statesOf := goodIn_r _ [19, 20, 125, 126, 127, 128] (by decide +kernel) (by decide +kernel)
set_option maxRecDepth 20000 in
theorem gX3_learn_X2_statesOf : GoodIn wsX3_learn (wsV RX3 62 RX2 yX2_statesOf wsX2_statesOf) := goodIn_app (goodIn_of _ (by decide +kernel)) ggX3_learn_X2_statesOf
set_option maxRecDepth 20000 in
theorem ggX3_learn_X3_plansAgainst : GoodIn wsX3_learn wsX3_plansAgainst := goodIn_r _ [101] (by decide +kernel) (by decide +kernel)
set_option maxRecDepth 20000 in
theorem gX3_learn_X3_plansAgainst : GoodIn wsX3_learn (va_wsS RX3 66 yX3_plansAgainst wsX3_plansAgainst) := goodIn_app (goodIn_of _ (by decide +kernel)) ggX3_learn_X3_plansAgainst
set_option maxRecDepth 20000 in
theorem ggX3_learn_X3_bestCompared : GoodIn wsX3_learn wsX3_bestCompared := goodIn_r _ [105, 92, 93, 84, 85, 5, 86, 106, 107, 108, 73, 109, 79, 80, 110, 111, 112, 113, 114, 115, 116, 117, 118, 132, 133] (by decide +kernel) (by decide +kernel)
set_option maxRecDepth 20000 in
theorem gX3_learn_X3_bestCompared : GoodIn wsX3_learn (wsV RX3 69 RX3 yX3_bestCompared wsX3_bestCompared) := goodIn_app (goodIn_of _ (by decide +kernel)) ggX3_learn_X3_bestCompared
theorem dX3_learn_0 : decode cX3_learn 0 = .ok (.aload_n 0, 1) := by decide +kernel
theorem dX3_learn_1 : decode cX3_learn 1 = .ok (.aload_n 1, 1) := by decide +kernel
theorem dX3_learn_2 : decode cX3_learn 2 = .ok (.aload_n 2, 1) := by decide +kernel
theorem dX3_learn_3 : decode cX3_learn 3 = .ok (.iload_n 3, 1) := by decide +kernel
theorem dX3_learn_4 : decode cX3_learn 4 = .ok (.iload 4, 2) := by decide +kernel
theorem dX3_learn_6 : decode cX3_learn 6 = .ok (.iconst 0, 1) := by decide +kernel
theorem dX3_learn_7 : decode cX3_learn 7 = .ok (.aload_n 0, 1) := by decide +kernel
theorem dX3_learn_8 : decode cX3_learn 8 = .ok (.getfield 32, 3) := by decide +kernel
theorem dX3_learn_11 : decode cX3_learn 11 = .ok (.invokevirtual 50, 3) := by decide +kernel
theorem dX3_learn_14 : decode cX3_learn 14 = .ok (.aload_n 0, 1) := by decide +kernel
theorem dX3_learn_15 : decode cX3_learn 15 = .ok (.iload_n 3, 1) := by decide +kernel
theorem dX3_learn_16 : decode cX3_learn 16 = .ok (.iload 4, 2) := by decide +kernel
theorem dX3_learn_18 : decode cX3_learn 18 = .ok (.invokestatic 54, 3) := by decide +kernel
theorem dX3_learn_21 : decode cX3_learn 21 = .ok (.iconst 0, 1) := by decide +kernel
theorem dX3_learn_22 : decode cX3_learn 22 = .ok (.invokevirtual 58, 3) := by decide +kernel
theorem dX3_learn_25 : decode cX3_learn 25 = .ok (.iconst 1, 1) := by decide +kernel
theorem dX3_learn_26 : decode cX3_learn 26 = .ok (.istore 5, 2) := by decide +kernel
theorem dX3_learn_28 : decode cX3_learn 28 = .ok (.iload 5, 2) := by decide +kernel
theorem dX3_learn_30 : decode cX3_learn 30 = .ok (.aload_n 2, 1) := by decide +kernel
theorem dX3_learn_31 : decode cX3_learn 31 = .ok (.iload_n 3, 1) := by decide +kernel
theorem dX3_learn_32 : decode cX3_learn 32 = .ok (.invokevirtual 62, 3) := by decide +kernel
theorem dX3_learn_35 : decode cX3_learn 35 = .ok (.invokestatic 66, 3) := by decide +kernel
theorem dX3_learn_38 : decode cX3_learn 38 = .ok (.if_icmp .ge 50, 3) := by decide +kernel
theorem dX3_learn_41 : decode cX3_learn 41 = .ok (.aload_n 0, 1) := by decide +kernel
theorem dX3_learn_42 : decode cX3_learn 42 = .ok (.aload_n 1, 1) := by decide +kernel
theorem dX3_learn_43 : decode cX3_learn 43 = .ok (.aload_n 2, 1) := by decide +kernel
theorem dX3_learn_44 : decode cX3_learn 44 = .ok (.iload_n 3, 1) := by decide +kernel
theorem dX3_learn_45 : decode cX3_learn 45 = .ok (.iload 4, 2) := by decide +kernel
theorem dX3_learn_47 : decode cX3_learn 47 = .ok (.iload 5, 2) := by decide +kernel
theorem dX3_learn_49 : decode cX3_learn 49 = .ok (.aload_n 0, 1) := by decide +kernel
theorem dX3_learn_50 : decode cX3_learn 50 = .ok (.getfield 32, 3) := by decide +kernel
theorem dX3_learn_53 : decode cX3_learn 53 = .ok (.invokevirtual 50, 3) := by decide +kernel
theorem dX3_learn_56 : decode cX3_learn 56 = .ok (.aload_n 0, 1) := by decide +kernel
theorem dX3_learn_57 : decode cX3_learn 57 = .ok (.iload_n 3, 1) := by decide +kernel
theorem dX3_learn_58 : decode cX3_learn 58 = .ok (.iload 4, 2) := by decide +kernel
theorem dX3_learn_60 : decode cX3_learn 60 = .ok (.aload_n 0, 1) := by decide +kernel
theorem dX3_learn_61 : decode cX3_learn 61 = .ok (.getfield 32, 3) := by decide +kernel
theorem dX3_learn_64 : decode cX3_learn 64 = .ok (.invokevirtual 69, 3) := by decide +kernel
theorem dX3_learn_67 : decode cX3_learn 67 = .ok (.ifCond .ge 15, 3) := by decide +kernel
theorem dX3_learn_70 : decode cX3_learn 70 = .ok (.aload_n 0, 1) := by decide +kernel
theorem dX3_learn_71 : decode cX3_learn 71 = .ok (.iload_n 3, 1) := by decide +kernel
theorem dX3_learn_72 : decode cX3_learn 72 = .ok (.iload 4, 2) := by decide +kernel
theorem dX3_learn_74 : decode cX3_learn 74 = .ok (.invokestatic 54, 3) := by decide +kernel
theorem dX3_learn_77 : decode cX3_learn 77 = .ok (.iload 5, 2) := by decide +kernel
theorem dX3_learn_79 : decode cX3_learn 79 = .ok (.invokevirtual 58, 3) := by decide +kernel
theorem dX3_learn_82 : decode cX3_learn 82 = .ok (.iinc 5 1, 3) := by decide +kernel
theorem dX3_learn_85 : decode cX3_learn 85 = .ok (.goto (-57), 3) := by decide +kernel
theorem dX3_learn_88 : decode cX3_learn 88 = .ok (.return_, 1) := by decide +kernel
set_option maxRecDepth 20000 in
theorem ggX3_keep_X4_part : GoodIn wsX3_keep wsX4_part := goodIn_r _ [9, 10, 11, 17, 18] (by decide +kernel) (by decide +kernel)
set_option maxRecDepth 20000 in
theorem gX3_keep_X4_part : GoodIn wsX3_keep (wsV RX3 73 RX4 yX4_part wsX4_part) := goodIn_app (goodIn_of _ (by decide +kernel)) ggX3_keep_X4_part
theorem dX3_keep_0 : decode cX3_keep 0 = .ok (.aload_n 0, 1) := by decide +kernel
theorem dX3_keep_1 : decode cX3_keep 1 = .ok (.getfield 11, 3) := by decide +kernel
theorem dX3_keep_4 : decode cX3_keep 4 = .ok (.iload_n 1, 1) := by decide +kernel
theorem dX3_keep_5 : decode cX3_keep 5 = .ok (.iload_n 2, 1) := by decide +kernel
theorem dX3_keep_6 : decode cX3_keep 6 = .ok (.iastore, 1) := by decide +kernel
theorem dX3_keep_7 : decode cX3_keep 7 = .ok (.aload_n 0, 1) := by decide +kernel
theorem dX3_keep_8 : decode cX3_keep 8 = .ok (.getfield 15, 3) := by decide +kernel
theorem dX3_keep_11 : decode cX3_keep 11 = .ok (.iload_n 1, 1) := by decide +kernel
theorem dX3_keep_12 : decode cX3_keep 12 = .ok (.aload_n 0, 1) := by decide +kernel
theorem dX3_keep_13 : decode cX3_keep 13 = .ok (.getfield 32, 3) := by decide +kernel
theorem dX3_keep_16 : decode cX3_keep 16 = .ok (.iconst 0, 1) := by decide +kernel
theorem dX3_keep_17 : decode cX3_keep 17 = .ok (.invokevirtual 73, 3) := by decide +kernel
theorem dX3_keep_20 : decode cX3_keep 20 = .ok (.lastore, 1) := by decide +kernel
theorem dX3_keep_21 : decode cX3_keep 21 = .ok (.aload_n 0, 1) := by decide +kernel
theorem dX3_keep_22 : decode cX3_keep 22 = .ok (.getfield 19, 3) := by decide +kernel
theorem dX3_keep_25 : decode cX3_keep 25 = .ok (.iload_n 1, 1) := by decide +kernel
theorem dX3_keep_26 : decode cX3_keep 26 = .ok (.aload_n 0, 1) := by decide +kernel
theorem dX3_keep_27 : decode cX3_keep 27 = .ok (.getfield 32, 3) := by decide +kernel
theorem dX3_keep_30 : decode cX3_keep 30 = .ok (.iconst 1, 1) := by decide +kernel
theorem dX3_keep_31 : decode cX3_keep 31 = .ok (.invokevirtual 73, 3) := by decide +kernel
theorem dX3_keep_34 : decode cX3_keep 34 = .ok (.lastore, 1) := by decide +kernel
theorem dX3_keep_35 : decode cX3_keep 35 = .ok (.return_, 1) := by decide +kernel
set_option maxRecDepth 20000 in
theorem ggX3_learnAll_X2_statesOf : GoodIn wsX3_learnAll wsX2_statesOf := goodIn_r _ [5, 6, 118, 119, 120, 121] (by decide +kernel) (by decide +kernel)
set_option maxRecDepth 20000 in
theorem gX3_learnAll_X2_statesOf : GoodIn wsX3_learnAll (wsV RX3 62 RX2 yX2_statesOf wsX2_statesOf) := goodIn_app (goodIn_of _ (by decide +kernel)) ggX3_learnAll_X2_statesOf
set_option maxRecDepth 20000 in
theorem ggX3_learnAll_X3_learn : GoodIn wsX3_learnAll wsX3_learn := goodIn_r _ [11, 12, 13, 14, 15, 10, 16, 17, 18, 19, 20, 21, 22, 23, 24, 25, 2, 3, 4, 5, 6, 26, 27, 28, 29, 30, 31, 32, 33, 34, 35, 36, 37, 38, 39, 40, 41, 42, 43, 44, 45, 46, 47, 48, 49, 50, 51, 52, 53, 54, 55, 56, 57, 58, 59, 60, 61, 62, 63, 64, 65, 66, 67, 68, 69, 70, 71, 72, 73, 74, 75, 76, 77, 78, 79, 80, 81, 82, 83, 84, 85, 86, 87, 88, 89, 90, 91, 92, 93, 94, 95, 96, 97, 98, 99, 100, 101, 102, 1, 103, 104, 105, 106, 107, 108, 109, 110, 111, 112, 113, 114, 115, 116, 117, 122, 123, 124, 125, 126, 127, 128, 129, 130, 131, 132, 118, 119, 120, 121, 133, 134, 135, 136, 137] (by decide +kernel) (by decide +kernel)
set_option maxRecDepth 20000 in
theorem gX3_learnAll_X3_learn : GoodIn wsX3_learnAll (wsV RX3 77 RX3 yX3_learn wsX3_learn) := goodIn_app (goodIn_of _ (by decide +kernel)) ggX3_learnAll_X3_learn
theorem dX3_learnAll_0 : decode cX3_learnAll 0 = .ok (.iconst 0, 1) := by decide +kernel
theorem dX3_learnAll_1 : decode cX3_learnAll 1 = .ok (.istore 4, 2) := by decide +kernel
theorem dX3_learnAll_3 : decode cX3_learnAll 3 = .ok (.iload 4, 2) := by decide +kernel
theorem dX3_learnAll_5 : decode cX3_learnAll 5 = .ok (.aload_n 2, 1) := by decide +kernel
theorem dX3_learnAll_6 : decode cX3_learnAll 6 = .ok (.iload_n 3, 1) := by decide +kernel
theorem dX3_learnAll_7 : decode cX3_learnAll 7 = .ok (.invokevirtual 62, 3) := by decide +kernel
theorem dX3_learnAll_10 : decode cX3_learnAll 10 = .ok (.if_icmp .ge 18, 3) := by decide +kernel
theorem dX3_learnAll_13 : decode cX3_learnAll 13 = .ok (.aload_n 0, 1) := by decide +kernel
theorem dX3_learnAll_14 : decode cX3_learnAll 14 = .ok (.aload_n 1, 1) := by decide +kernel
theorem dX3_learnAll_15 : decode cX3_learnAll 15 = .ok (.aload_n 2, 1) := by decide +kernel
theorem dX3_learnAll_16 : decode cX3_learnAll 16 = .ok (.iload_n 3, 1) := by decide +kernel
theorem dX3_learnAll_17 : decode cX3_learnAll 17 = .ok (.iload 4, 2) := by decide +kernel
theorem dX3_learnAll_19 : decode cX3_learnAll 19 = .ok (.invokevirtual 77, 3) := by decide +kernel
theorem dX3_learnAll_22 : decode cX3_learnAll 22 = .ok (.iinc 4 1, 3) := by decide +kernel
theorem dX3_learnAll_25 : decode cX3_learnAll 25 = .ok (.goto (-22), 3) := by decide +kernel
theorem dX3_learnAll_28 : decode cX3_learnAll 28 = .ok (.return_, 1) := by decide +kernel
set_option maxRecDepth 20000 in
theorem ggX3_bestPlan_X3_slotOf : GoodIn wsX3_bestPlan wsX3_slotOf := goodIn_r _ [5] (by decide +kernel) (by decide +kernel)
set_option maxRecDepth 20000 in
theorem gX3_bestPlan_X3_slotOf : GoodIn wsX3_bestPlan (va_wsS RX3 54 yX3_slotOf wsX3_slotOf) := goodIn_app (goodIn_of _ (by decide +kernel)) ggX3_bestPlan_X3_slotOf
theorem dX3_bestPlan_0 : decode cX3_bestPlan 0 = .ok (.aload_n 0, 1) := by decide +kernel
theorem dX3_bestPlan_1 : decode cX3_bestPlan 1 = .ok (.getfield 11, 3) := by decide +kernel
theorem dX3_bestPlan_4 : decode cX3_bestPlan 4 = .ok (.iload_n 1, 1) := by decide +kernel
theorem dX3_bestPlan_5 : decode cX3_bestPlan 5 = .ok (.iload_n 2, 1) := by decide +kernel
theorem dX3_bestPlan_6 : decode cX3_bestPlan 6 = .ok (.invokestatic 54, 3) := by decide +kernel
theorem dX3_bestPlan_9 : decode cX3_bestPlan 9 = .ok (.iaload, 1) := by decide +kernel
theorem dX3_bestPlan_10 : decode cX3_bestPlan 10 = .ok (.ireturn, 1) := by decide +kernel
set_option maxRecDepth 20000 in
theorem ggX3_bestPart_X3_slotOf : GoodIn wsX3_bestPart wsX3_slotOf := goodIn_r _ [6] (by decide +kernel) (by decide +kernel)
set_option maxRecDepth 20000 in
theorem gX3_bestPart_X3_slotOf : GoodIn wsX3_bestPart (va_wsS RX3 54 yX3_slotOf wsX3_slotOf) := goodIn_app (goodIn_of _ (by decide +kernel)) ggX3_bestPart_X3_slotOf
theorem dX3_bestPart_0 : decode cX3_bestPart 0 = .ok (.iload_n 3, 1) := by decide +kernel
theorem dX3_bestPart_1 : decode cX3_bestPart 1 = .ok (.ifCond .ne 16, 3) := by decide +kernel
theorem dX3_bestPart_4 : decode cX3_bestPart 4 = .ok (.aload_n 0, 1) := by decide +kernel
theorem dX3_bestPart_5 : decode cX3_bestPart 5 = .ok (.getfield 15, 3) := by decide +kernel
theorem dX3_bestPart_8 : decode cX3_bestPart 8 = .ok (.iload_n 1, 1) := by decide +kernel
theorem dX3_bestPart_9 : decode cX3_bestPart 9 = .ok (.iload_n 2, 1) := by decide +kernel
theorem dX3_bestPart_10 : decode cX3_bestPart 10 = .ok (.invokestatic 54, 3) := by decide +kernel
theorem dX3_bestPart_13 : decode cX3_bestPart 13 = .ok (.laload, 1) := by decide +kernel
theorem dX3_bestPart_14 : decode cX3_bestPart 14 = .ok (.goto 13, 3) := by decide +kernel
theorem dX3_bestPart_17 : decode cX3_bestPart 17 = .ok (.aload_n 0, 1) := by decide +kernel
theorem dX3_bestPart_18 : decode cX3_bestPart 18 = .ok (.getfield 19, 3) := by decide +kernel
theorem dX3_bestPart_21 : decode cX3_bestPart 21 = .ok (.iload_n 1, 1) := by decide +kernel
theorem dX3_bestPart_22 : decode cX3_bestPart 22 = .ok (.iload_n 2, 1) := by decide +kernel
theorem dX3_bestPart_23 : decode cX3_bestPart 23 = .ok (.invokestatic 54, 3) := by decide +kernel
theorem dX3_bestPart_26 : decode cX3_bestPart 26 = .ok (.laload, 1) := by decide +kernel
theorem dX3_bestPart_27 : decode cX3_bestPart 27 = .ok (.lreturn, 1) := by decide +kernel
set_option maxRecDepth 20000 in
theorem ggX3_bestCompared_X3_slotOf : GoodIn wsX3_bestCompared wsX3_slotOf := goodIn_r _ [6] (by decide +kernel) (by decide +kernel)
set_option maxRecDepth 20000 in
theorem gX3_bestCompared_X3_slotOf : GoodIn wsX3_bestCompared (va_wsS RX3 54 yX3_slotOf wsX3_slotOf) := goodIn_app (goodIn_of _ (by decide +kernel)) ggX3_bestCompared_X3_slotOf
set_option maxRecDepth 20000 in
theorem ggX3_bestCompared_X4_compareWith : GoodIn wsX3_bestCompared wsX4_compareWith := goodIn_r _ [11, 12, 13, 14, 15, 16, 17, 23, 24] (by decide +kernel) (by decide +kernel)
set_option maxRecDepth 20000 in
theorem gX3_bestCompared_X4_compareWith : GoodIn wsX3_bestCompared (wsV RX3 80 RX4 yX4_compareWith wsX4_compareWith) := goodIn_app (goodIn_of _ (by decide +kernel)) ggX3_bestCompared_X4_compareWith
theorem dX3_bestCompared_0 : decode cX3_bestCompared 0 = .ok (.aload_n 3, 1) := by decide +kernel
theorem dX3_bestCompared_1 : decode cX3_bestCompared 1 = .ok (.aload_n 0, 1) := by decide +kernel
theorem dX3_bestCompared_2 : decode cX3_bestCompared 2 = .ok (.getfield 15, 3) := by decide +kernel
theorem dX3_bestCompared_5 : decode cX3_bestCompared 5 = .ok (.iload_n 1, 1) := by decide +kernel
theorem dX3_bestCompared_6 : decode cX3_bestCompared 6 = .ok (.iload_n 2, 1) := by decide +kernel
theorem dX3_bestCompared_7 : decode cX3_bestCompared 7 = .ok (.invokestatic 54, 3) := by decide +kernel
theorem dX3_bestCompared_10 : decode cX3_bestCompared 10 = .ok (.laload, 1) := by decide +kernel
theorem dX3_bestCompared_11 : decode cX3_bestCompared 11 = .ok (.aload_n 0, 1) := by decide +kernel
theorem dX3_bestCompared_12 : decode cX3_bestCompared 12 = .ok (.getfield 19, 3) := by decide +kernel
theorem dX3_bestCompared_15 : decode cX3_bestCompared 15 = .ok (.iload_n 1, 1) := by decide +kernel
theorem dX3_bestCompared_16 : decode cX3_bestCompared 16 = .ok (.iload_n 2, 1) := by decide +kernel
theorem dX3_bestCompared_17 : decode cX3_bestCompared 17 = .ok (.invokestatic 54, 3) := by decide +kernel
theorem dX3_bestCompared_20 : decode cX3_bestCompared 20 = .ok (.laload, 1) := by decide +kernel
theorem dX3_bestCompared_21 : decode cX3_bestCompared 21 = .ok (.invokevirtual 80, 3) := by decide +kernel
theorem dX3_bestCompared_24 : decode cX3_bestCompared 24 = .ok (.ineg, 1) := by decide +kernel
theorem dX3_bestCompared_25 : decode cX3_bestCompared 25 = .ok (.ireturn, 1) := by decide +kernel
theorem dX4_init_0 : decode cX4_init 0 = .ok (.aload_n 0, 1) := by decide +kernel
theorem dX4_init_1 : decode cX4_init 1 = .ok (.invokespecial 1, 3) := by decide +kernel
theorem dX4_init_4 : decode cX4_init 4 = .ok (.aload_n 0, 1) := by decide +kernel
theorem dX4_init_5 : decode cX4_init 5 = .ok (.lconst 0, 1) := by decide +kernel
theorem dX4_init_6 : decode cX4_init 6 = .ok (.putfield 7, 3) := by decide +kernel
theorem dX4_init_9 : decode cX4_init 9 = .ok (.aload_n 0, 1) := by decide +kernel
theorem dX4_init_10 : decode cX4_init 10 = .ok (.lconst 1, 1) := by decide +kernel
theorem dX4_init_11 : decode cX4_init 11 = .ok (.putfield 13, 3) := by decide +kernel
theorem dX4_init_14 : decode cX4_init 14 = .ok (.return_, 1) := by decide +kernel
set_option maxRecDepth 20000 in
theorem ggX4_become_X4_greatestShared : GoodIn wsX4_become wsX4_greatestShared := goodIn_r _ [10] (by decide +kernel) (by decide +kernel)
set_option maxRecDepth 20000 in
theorem gX4_become_X4_greatestShared : GoodIn wsX4_become (va_wsS RX4 22 yX4_greatestShared wsX4_greatestShared) := goodIn_app (goodIn_of _ (by decide +kernel)) ggX4_become_X4_greatestShared
theorem dX4_become_0 : decode cX4_become 0 = .ok (.lload_n 1, 1) := by decide +kernel
theorem dX4_become_1 : decode cX4_become 1 = .ok (.invokestatic 16, 3) := by decide +kernel
theorem dX4_become_4 : decode cX4_become 4 = .ok (.lload_n 3, 1) := by decide +kernel
theorem dX4_become_5 : decode cX4_become 5 = .ok (.invokestatic 22, 3) := by decide +kernel
theorem dX4_become_8 : decode cX4_become 8 = .ok (.lstore 5, 2) := by decide +kernel
theorem dX4_become_10 : decode cX4_become 10 = .ok (.aload_n 0, 1) := by decide +kernel
theorem dX4_become_11 : decode cX4_become 11 = .ok (.lload_n 1, 1) := by decide +kernel
theorem dX4_become_12 : decode cX4_become 12 = .ok (.lload 5, 2) := by decide +kernel
theorem dX4_become_14 : decode cX4_become 14 = .ok (.ldiv, 1) := by decide +kernel
theorem dX4_become_15 : decode cX4_become 15 = .ok (.putfield 7, 3) := by decide +kernel
theorem dX4_become_18 : decode cX4_become 18 = .ok (.aload_n 0, 1) := by decide +kernel
theorem dX4_become_19 : decode cX4_become 19 = .ok (.lload_n 3, 1) := by decide +kernel
theorem dX4_become_20 : decode cX4_become 20 = .ok (.lload 5, 2) := by decide +kernel
theorem dX4_become_22 : decode cX4_become 22 = .ok (.ldiv, 1) := by decide +kernel
theorem dX4_become_23 : decode cX4_become 23 = .ok (.putfield 13, 3) := by decide +kernel
theorem dX4_become_26 : decode cX4_become 26 = .ok (.return_, 1) := by decide +kernel
theorem dX4_part_0 : decode cX4_part 0 = .ok (.iload_n 1, 1) := by decide +kernel
theorem dX4_part_1 : decode cX4_part 1 = .ok (.ifCond .ne 10, 3) := by decide +kernel
theorem dX4_part_4 : decode cX4_part 4 = .ok (.aload_n 0, 1) := by decide +kernel
theorem dX4_part_5 : decode cX4_part 5 = .ok (.getfield 7, 3) := by decide +kernel
theorem dX4_part_8 : decode cX4_part 8 = .ok (.goto 7, 3) := by decide +kernel
theorem dX4_part_11 : decode cX4_part 11 = .ok (.aload_n 0, 1) := by decide +kernel
theorem dX4_part_12 : decode cX4_part 12 = .ok (.getfield 13, 3) := by decide +kernel
theorem dX4_part_15 : decode cX4_part 15 = .ok (.lreturn, 1) := by decide +kernel
set_option maxRecDepth 20000 in
theorem ggX4_compareWith_J13_compare_74951 : GoodIn wsX4_compareWith wsJ13_compare_74951 := goodIn_r _ [6] (by decide +kernel) (by decide +kernel)
set_option maxRecDepth 20000 in
theorem gX4_compareWith_J13_compare_74951 : GoodIn wsX4_compareWith (va_wsS RX4 26 yJ13_compare_74951 wsJ13_compare_74951) := goodIn_app (goodIn_of _ (by decide +kernel)) ggX4_compareWith_J13_compare_74951
theorem dX4_compareWith_0 : decode cX4_compareWith 0 = .ok (.aload_n 0, 1) := by decide +kernel
theorem dX4_compareWith_1 : decode cX4_compareWith 1 = .ok (.getfield 7, 3) := by decide +kernel
theorem dX4_compareWith_4 : decode cX4_compareWith 4 = .ok (.lload_n 3, 1) := by decide +kernel
theorem dX4_compareWith_5 : decode cX4_compareWith 5 = .ok (.lmul, 1) := by decide +kernel
theorem dX4_compareWith_6 : decode cX4_compareWith 6 = .ok (.lload_n 1, 1) := by decide +kernel
theorem dX4_compareWith_7 : decode cX4_compareWith 7 = .ok (.aload_n 0, 1) := by decide +kernel
theorem dX4_compareWith_8 : decode cX4_compareWith 8 = .ok (.getfield 13, 3) := by decide +kernel
theorem dX4_compareWith_11 : decode cX4_compareWith 11 = .ok (.lmul, 1) := by decide +kernel
theorem dX4_compareWith_12 : decode cX4_compareWith 12 = .ok (.invokestatic 26, 3) := by decide +kernel
theorem dX4_compareWith_15 : decode cX4_compareWith 15 = .ok (.ireturn, 1) := by decide +kernel
theorem dX4_greatestShared_0 : decode cX4_greatestShared 0 = .ok (.lload_n 2, 1) := by decide +kernel
theorem dX4_greatestShared_1 : decode cX4_greatestShared 1 = .ok (.lstore 4, 2) := by decide +kernel
theorem dX4_greatestShared_3 : decode cX4_greatestShared 3 = .ok (.lload_n 0, 1) := by decide +kernel
theorem dX4_greatestShared_4 : decode cX4_greatestShared 4 = .ok (.lstore 6, 2) := by decide +kernel
theorem dX4_greatestShared_6 : decode cX4_greatestShared 6 = .ok (.iconst 0, 1) := by decide +kernel
theorem dX4_greatestShared_7 : decode cX4_greatestShared 7 = .ok (.istore 8, 2) := by decide +kernel
theorem dX4_greatestShared_9 : decode cX4_greatestShared 9 = .ok (.iload 8, 2) := by decide +kernel
theorem dX4_greatestShared_11 : decode cX4_greatestShared 11 = .ok (.bipush 100, 2) := by decide +kernel
theorem dX4_greatestShared_13 : decode cX4_greatestShared 13 = .ok (.if_icmp .ge 31, 3) := by decide +kernel
theorem dX4_greatestShared_16 : decode cX4_greatestShared 16 = .ok (.lload 6, 2) := by decide +kernel
theorem dX4_greatestShared_18 : decode cX4_greatestShared 18 = .ok (.lconst 0, 1) := by decide +kernel
theorem dX4_greatestShared_19 : decode cX4_greatestShared 19 = .ok (.lcmp, 1) := by decide +kernel
theorem dX4_greatestShared_20 : decode cX4_greatestShared 20 = .ok (.ifCond .eq 24, 3) := by decide +kernel
theorem dX4_greatestShared_23 : decode cX4_greatestShared 23 = .ok (.lload 4, 2) := by decide +kernel
theorem dX4_greatestShared_25 : decode cX4_greatestShared 25 = .ok (.lload 6, 2) := by decide +kernel
theorem dX4_greatestShared_27 : decode cX4_greatestShared 27 = .ok (.lrem, 1) := by decide +kernel
theorem dX4_greatestShared_28 : decode cX4_greatestShared 28 = .ok (.lstore 9, 2) := by decide +kernel
theorem dX4_greatestShared_30 : decode cX4_greatestShared 30 = .ok (.lload 6, 2) := by decide +kernel
theorem dX4_greatestShared_32 : decode cX4_greatestShared 32 = .ok (.lstore 4, 2) := by decide +kernel
theorem dX4_greatestShared_34 : decode cX4_greatestShared 34 = .ok (.lload 9, 2) := by decide +kernel
theorem dX4_greatestShared_36 : decode cX4_greatestShared 36 = .ok (.lstore 6, 2) := by decide +kernel
theorem dX4_greatestShared_38 : decode cX4_greatestShared 38 = .ok (.iinc 8 1, 3) := by decide +kernel
theorem dX4_greatestShared_41 : decode cX4_greatestShared 41 = .ok (.goto (-32), 3) := by decide +kernel
theorem dX4_greatestShared_44 : decode cX4_greatestShared 44 = .ok (.lload 4, 2) := by decide +kernel
theorem dX4_greatestShared_46 : decode cX4_greatestShared 46 = .ok (.lreturn, 1) := by decide +kernel
set_option maxRecDepth 20000 in
theorem ggX5_init_J7_fill_53178 : GoodIn wsX5_init wsJ7_fill_53178 := goodIn_r _ [11] (by decide +kernel) (by decide +kernel)
set_option maxRecDepth 20000 in
theorem gX5_init_J7_fill_53178 : GoodIn wsX5_init (va_wsS RX5 19 yJ7_fill_53178 wsJ7_fill_53178) := goodIn_app (goodIn_of _ (by decide +kernel)) ggX5_init_J7_fill_53178
theorem dX5_init_0 : decode cX5_init 0 = .ok (.aload_n 0, 1) := by decide +kernel
theorem dX5_init_1 : decode cX5_init 1 = .ok (.invokespecial 1, 3) := by decide +kernel
theorem dX5_init_4 : decode cX5_init 4 = .ok (.aload_n 0, 1) := by decide +kernel
theorem dX5_init_5 : decode cX5_init 5 = .ok (.iconst 4, 1) := by decide +kernel
theorem dX5_init_6 : decode cX5_init 6 = .ok (.newarray .int, 2) := by decide +kernel
theorem dX5_init_8 : decode cX5_init 8 = .ok (.putfield 9, 3) := by decide +kernel
theorem dX5_init_11 : decode cX5_init 11 = .ok (.aload_n 0, 1) := by decide +kernel
theorem dX5_init_12 : decode cX5_init 12 = .ok (.iconst 4, 1) := by decide +kernel
theorem dX5_init_13 : decode cX5_init 13 = .ok (.newarray .int, 2) := by decide +kernel
theorem dX5_init_15 : decode cX5_init 15 = .ok (.putfield 13, 3) := by decide +kernel
theorem dX5_init_18 : decode cX5_init 18 = .ok (.aload_n 0, 1) := by decide +kernel
theorem dX5_init_19 : decode cX5_init 19 = .ok (.sipush 240, 3) := by decide +kernel
theorem dX5_init_22 : decode cX5_init 22 = .ok (.newarray .int, 2) := by decide +kernel
theorem dX5_init_24 : decode cX5_init 24 = .ok (.putfield 16, 3) := by decide +kernel
theorem dX5_init_27 : decode cX5_init 27 = .ok (.aload_n 0, 1) := by decide +kernel
theorem dX5_init_28 : decode cX5_init 28 = .ok (.getfield 9, 3) := by decide +kernel
theorem dX5_init_31 : decode cX5_init 31 = .ok (.iconst (-1), 1) := by decide +kernel
theorem dX5_init_32 : decode cX5_init 32 = .ok (.invokestatic 19, 3) := by decide +kernel
theorem dX5_init_35 : decode cX5_init 35 = .ok (.return_, 1) := by decide +kernel
theorem dX5_isSheet_0 : decode cX5_isSheet 0 = .ok (.iload_n 0, 1) := by decide +kernel
theorem dX5_isSheet_1 : decode cX5_isSheet 1 = .ok (.ifCond .lt 12, 3) := by decide +kernel
theorem dX5_isSheet_4 : decode cX5_isSheet 4 = .ok (.iload_n 0, 1) := by decide +kernel
theorem dX5_isSheet_5 : decode cX5_isSheet 5 = .ok (.iconst 4, 1) := by decide +kernel
theorem dX5_isSheet_6 : decode cX5_isSheet 6 = .ok (.if_icmp .ge 7, 3) := by decide +kernel
theorem dX5_isSheet_9 : decode cX5_isSheet 9 = .ok (.iconst 1, 1) := by decide +kernel
theorem dX5_isSheet_10 : decode cX5_isSheet 10 = .ok (.goto 4, 3) := by decide +kernel
theorem dX5_isSheet_13 : decode cX5_isSheet 13 = .ok (.iconst 0, 1) := by decide +kernel
theorem dX5_isSheet_14 : decode cX5_isSheet 14 = .ok (.ireturn, 1) := by decide +kernel
theorem dX5_isLane_0 : decode cX5_isLane 0 = .ok (.iload_n 0, 1) := by decide +kernel
theorem dX5_isLane_1 : decode cX5_isLane 1 = .ok (.ifCond .lt 12, 3) := by decide +kernel
theorem dX5_isLane_4 : decode cX5_isLane 4 = .ok (.iload_n 0, 1) := by decide +kernel
theorem dX5_isLane_5 : decode cX5_isLane 5 = .ok (.iconst 2, 1) := by decide +kernel
theorem dX5_isLane_6 : decode cX5_isLane 6 = .ok (.if_icmp .gt 7, 3) := by decide +kernel
theorem dX5_isLane_9 : decode cX5_isLane 9 = .ok (.iconst 1, 1) := by decide +kernel
theorem dX5_isLane_10 : decode cX5_isLane 10 = .ok (.goto 4, 3) := by decide +kernel
theorem dX5_isLane_13 : decode cX5_isLane 13 = .ok (.iconst 0, 1) := by decide +kernel
theorem dX5_isLane_14 : decode cX5_isLane 14 = .ok (.ireturn, 1) := by decide +kernel
theorem dX5_isThere_0 : decode cX5_isThere 0 = .ok (.aload_n 0, 1) := by decide +kernel
theorem dX5_isThere_1 : decode cX5_isThere 1 = .ok (.getfield 9, 3) := by decide +kernel
theorem dX5_isThere_4 : decode cX5_isThere 4 = .ok (.iload_n 1, 1) := by decide +kernel
theorem dX5_isThere_5 : decode cX5_isThere 5 = .ok (.iaload, 1) := by decide +kernel
theorem dX5_isThere_6 : decode cX5_isThere 6 = .ok (.iconst (-1), 1) := by decide +kernel
theorem dX5_isThere_7 : decode cX5_isThere 7 = .ok (.if_icmp .eq 7, 3) := by decide +kernel
theorem dX5_isThere_10 : decode cX5_isThere 10 = .ok (.iconst 1, 1) := by decide +kernel
theorem dX5_isThere_11 : decode cX5_isThere 11 = .ok (.goto 4, 3) := by decide +kernel
theorem dX5_isThere_14 : decode cX5_isThere 14 = .ok (.iconst 0, 1) := by decide +kernel
theorem dX5_isThere_15 : decode cX5_isThere 15 = .ok (.ireturn, 1) := by decide +kernel
theorem dX5_laneOf_0 : decode cX5_laneOf 0 = .ok (.aload_n 0, 1) := by decide +kernel
theorem dX5_laneOf_1 : decode cX5_laneOf 1 = .ok (.getfield 9, 3) := by decide +kernel
theorem dX5_laneOf_4 : decode cX5_laneOf 4 = .ok (.iload_n 1, 1) := by decide +kernel
theorem dX5_laneOf_5 : decode cX5_laneOf 5 = .ok (.iaload, 1) := by decide +kernel
theorem dX5_laneOf_6 : decode cX5_laneOf 6 = .ok (.ireturn, 1) := by decide +kernel
theorem dX5_cellsOf_0 : decode cX5_cellsOf 0 = .ok (.aload_n 0, 1) := by decide +kernel
theorem dX5_cellsOf_1 : decode cX5_cellsOf 1 = .ok (.getfield 13, 3) := by decide +kernel
theorem dX5_cellsOf_4 : decode cX5_cellsOf 4 = .ok (.iload_n 1, 1) := by decide +kernel
theorem dX5_cellsOf_5 : decode cX5_cellsOf 5 = .ok (.iaload, 1) := by decide +kernel
theorem dX5_cellsOf_6 : decode cX5_cellsOf 6 = .ok (.ireturn, 1) := by decide +kernel
set_option maxRecDepth 20000 in
theorem ggX5_layOut_J7_fill_fda19 : GoodIn wsX5_layOut wsJ7_fill_fda19 := goodIn_r _ [7, 8, 9, 6, 10] (by decide +kernel) (by decide +kernel)
set_option maxRecDepth 20000 in
theorem gX5_layOut_J7_fill_fda19 : GoodIn wsX5_layOut (va_wsS RX5 25 yJ7_fill_fda19 wsJ7_fill_fda19) := goodIn_app (goodIn_of _ (by decide +kernel)) ggX5_layOut_J7_fill_fda19
theorem dX5_layOut_0 : decode cX5_layOut 0 = .ok (.aload_n 0, 1) := by decide +kernel
theorem dX5_layOut_1 : decode cX5_layOut 1 = .ok (.getfield 9, 3) := by decide +kernel
theorem dX5_layOut_4 : decode cX5_layOut 4 = .ok (.iload_n 1, 1) := by decide +kernel
theorem dX5_layOut_5 : decode cX5_layOut 5 = .ok (.iload_n 2, 1) := by decide +kernel
theorem dX5_layOut_6 : decode cX5_layOut 6 = .ok (.iastore, 1) := by decide +kernel
theorem dX5_layOut_7 : decode cX5_layOut 7 = .ok (.aload_n 0, 1) := by decide +kernel
theorem dX5_layOut_8 : decode cX5_layOut 8 = .ok (.getfield 13, 3) := by decide +kernel
theorem dX5_layOut_11 : decode cX5_layOut 11 = .ok (.iload_n 1, 1) := by decide +kernel
theorem dX5_layOut_12 : decode cX5_layOut 12 = .ok (.iload_n 3, 1) := by decide +kernel
theorem dX5_layOut_13 : decode cX5_layOut 13 = .ok (.iastore, 1) := by decide +kernel
theorem dX5_layOut_14 : decode cX5_layOut 14 = .ok (.aload_n 0, 1) := by decide +kernel
theorem dX5_layOut_15 : decode cX5_layOut 15 = .ok (.getfield 16, 3) := by decide +kernel
theorem dX5_layOut_18 : decode cX5_layOut 18 = .ok (.iload_n 1, 1) := by decide +kernel
theorem dX5_layOut_19 : decode cX5_layOut 19 = .ok (.bipush 60, 2) := by decide +kernel
theorem dX5_layOut_21 : decode cX5_layOut 21 = .ok (.imul, 1) := by decide +kernel
theorem dX5_layOut_22 : decode cX5_layOut 22 = .ok (.iload_n 1, 1) := by decide +kernel
theorem dX5_layOut_23 : decode cX5_layOut 23 = .ok (.bipush 60, 2) := by decide +kernel
theorem dX5_layOut_25 : decode cX5_layOut 25 = .ok (.imul, 1) := by decide +kernel
theorem dX5_layOut_26 : decode cX5_layOut 26 = .ok (.iload_n 3, 1) := by decide +kernel
theorem dX5_layOut_27 : decode cX5_layOut 27 = .ok (.iadd, 1) := by decide +kernel
theorem dX5_layOut_28 : decode cX5_layOut 28 = .ok (.iconst 0, 1) := by decide +kernel
theorem dX5_layOut_29 : decode cX5_layOut 29 = .ok (.invokestatic 25, 3) := by decide +kernel
theorem dX5_layOut_32 : decode cX5_layOut 32 = .ok (.return_, 1) := by decide +kernel
theorem dX5_hasCell_0 : decode cX5_hasCell 0 = .ok (.iload_n 2, 1) := by decide +kernel
theorem dX5_hasCell_1 : decode cX5_hasCell 1 = .ok (.ifCond .lt 17, 3) := by decide +kernel
theorem dX5_hasCell_4 : decode cX5_hasCell 4 = .ok (.iload_n 2, 1) := by decide +kernel
theorem dX5_hasCell_5 : decode cX5_hasCell 5 = .ok (.aload_n 0, 1) := by decide +kernel
theorem dX5_hasCell_6 : decode cX5_hasCell 6 = .ok (.getfield 13, 3) := by decide +kernel
theorem dX5_hasCell_9 : decode cX5_hasCell 9 = .ok (.iload_n 1, 1) := by decide +kernel
theorem dX5_hasCell_10 : decode cX5_hasCell 10 = .ok (.iaload, 1) := by decide +kernel
theorem dX5_hasCell_11 : decode cX5_hasCell 11 = .ok (.if_icmp .ge 7, 3) := by decide +kernel
theorem dX5_hasCell_14 : decode cX5_hasCell 14 = .ok (.iconst 1, 1) := by decide +kernel
theorem dX5_hasCell_15 : decode cX5_hasCell 15 = .ok (.goto 4, 3) := by decide +kernel
theorem dX5_hasCell_18 : decode cX5_hasCell 18 = .ok (.iconst 0, 1) := by decide +kernel
theorem dX5_hasCell_19 : decode cX5_hasCell 19 = .ok (.ireturn, 1) := by decide +kernel
theorem dX5_cell_0 : decode cX5_cell 0 = .ok (.aload_n 0, 1) := by decide +kernel
theorem dX5_cell_1 : decode cX5_cell 1 = .ok (.getfield 16, 3) := by decide +kernel
theorem dX5_cell_4 : decode cX5_cell 4 = .ok (.iload_n 1, 1) := by decide +kernel
theorem dX5_cell_5 : decode cX5_cell 5 = .ok (.bipush 60, 2) := by decide +kernel
theorem dX5_cell_7 : decode cX5_cell 7 = .ok (.imul, 1) := by decide +kernel
theorem dX5_cell_8 : decode cX5_cell 8 = .ok (.iload_n 2, 1) := by decide +kernel
theorem dX5_cell_9 : decode cX5_cell 9 = .ok (.iadd, 1) := by decide +kernel
theorem dX5_cell_10 : decode cX5_cell 10 = .ok (.iaload, 1) := by decide +kernel
theorem dX5_cell_11 : decode cX5_cell 11 = .ok (.ireturn, 1) := by decide +kernel
set_option maxRecDepth 20000 in
theorem ggX5_setCell_X5_lowestBits : GoodIn wsX5_setCell wsX5_lowestBits := goodIn_r _ [6] (by decide +kernel) (by decide +kernel)
set_option maxRecDepth 20000 in
theorem gX5_setCell_X5_lowestBits : GoodIn wsX5_setCell (va_wsS RX5 28 yX5_lowestBits wsX5_lowestBits) := goodIn_app (goodIn_of _ (by decide +kernel)) ggX5_setCell_X5_lowestBits
theorem dX5_setCell_0 : decode cX5_setCell 0 = .ok (.aload_n 0, 1) := by decide +kernel
theorem dX5_setCell_1 : decode cX5_setCell 1 = .ok (.getfield 16, 3) := by decide +kernel
theorem dX5_setCell_4 : decode cX5_setCell 4 = .ok (.iload_n 1, 1) := by decide +kernel
theorem dX5_setCell_5 : decode cX5_setCell 5 = .ok (.bipush 60, 2) := by decide +kernel
theorem dX5_setCell_7 : decode cX5_setCell 7 = .ok (.imul, 1) := by decide +kernel
theorem dX5_setCell_8 : decode cX5_setCell 8 = .ok (.iload_n 2, 1) := by decide +kernel
theorem dX5_setCell_9 : decode cX5_setCell 9 = .ok (.iadd, 1) := by decide +kernel
theorem dX5_setCell_10 : decode cX5_setCell 10 = .ok (.aload_n 0, 1) := by decide +kernel
theorem dX5_setCell_11 : decode cX5_setCell 11 = .ok (.getfield 9, 3) := by decide +kernel
theorem dX5_setCell_14 : decode cX5_setCell 14 = .ok (.iload_n 1, 1) := by decide +kernel
theorem dX5_setCell_15 : decode cX5_setCell 15 = .ok (.iaload, 1) := by decide +kernel
theorem dX5_setCell_16 : decode cX5_setCell 16 = .ok (.iload_n 3, 1) := by decide +kernel
theorem dX5_setCell_17 : decode cX5_setCell 17 = .ok (.invokestatic 28, 3) := by decide +kernel
theorem dX5_setCell_20 : decode cX5_setCell 20 = .ok (.iastore, 1) := by decide +kernel
theorem dX5_setCell_21 : decode cX5_setCell 21 = .ok (.return_, 1) := by decide +kernel
theorem dX5_lowestBits_0 : decode cX5_lowestBits 0 = .ok (.iload_n 0, 1) := by decide +kernel
theorem dX5_lowestBits_1 : decode cX5_lowestBits 1 = .ok (.ifCond .ne 6, 3) := by decide +kernel
theorem dX5_lowestBits_4 : decode cX5_lowestBits 4 = .ok (.iload_n 1, 1) := by decide +kernel
theorem dX5_lowestBits_5 : decode cX5_lowestBits 5 = .ok (.i2b, 1) := by decide +kernel
theorem dX5_lowestBits_6 : decode cX5_lowestBits 6 = .ok (.ireturn, 1) := by decide +kernel
theorem dX5_lowestBits_7 : decode cX5_lowestBits 7 = .ok (.iload_n 0, 1) := by decide +kernel
theorem dX5_lowestBits_8 : decode cX5_lowestBits 8 = .ok (.iconst 1, 1) := by decide +kernel
theorem dX5_lowestBits_9 : decode cX5_lowestBits 9 = .ok (.if_icmp .ne 8, 3) := by decide +kernel
theorem dX5_lowestBits_12 : decode cX5_lowestBits 12 = .ok (.iload_n 1, 1) := by decide +kernel
theorem dX5_lowestBits_13 : decode cX5_lowestBits 13 = .ok (.i2s, 1) := by decide +kernel
theorem dX5_lowestBits_14 : decode cX5_lowestBits 14 = .ok (.goto 4, 3) := by decide +kernel
theorem dX5_lowestBits_17 : decode cX5_lowestBits 17 = .ok (.iload_n 1, 1) := by decide +kernel
theorem dX5_lowestBits_18 : decode cX5_lowestBits 18 = .ok (.ireturn, 1) := by decide +kernel
theorem dX6_init_0 : decode cX6_init 0 = .ok (.aload_n 0, 1) := by decide +kernel
theorem dX6_init_1 : decode cX6_init 1 = .ok (.invokespecial 5, 3) := by decide +kernel
theorem dX6_init_4 : decode cX6_init 4 = .ok (.aload_n 0, 1) := by decide +kernel
theorem dX6_init_5 : decode cX6_init 5 = .ok (.bipush 16, 2) := by decide +kernel
theorem dX6_init_7 : decode cX6_init 7 = .ok (.newarray .int, 2) := by decide +kernel
theorem dX6_init_9 : decode cX6_init 9 = .ok (.putfield 11, 3) := by decide +kernel
theorem dX6_init_12 : decode cX6_init 12 = .ok (.aload_n 0, 1) := by decide +kernel
theorem dX6_init_13 : decode cX6_init 13 = .ok (.bipush 16, 2) := by decide +kernel
theorem dX6_init_15 : decode cX6_init 15 = .ok (.newarray .int, 2) := by decide +kernel
theorem dX6_init_17 : decode cX6_init 17 = .ok (.putfield 15, 3) := by decide +kernel
theorem dX6_init_20 : decode cX6_init 20 = .ok (.aload_n 0, 1) := by decide +kernel
theorem dX6_init_21 : decode cX6_init 21 = .ok (.bipush 16, 2) := by decide +kernel
theorem dX6_init_23 : decode cX6_init 23 = .ok (.newarray .int, 2) := by decide +kernel
theorem dX6_init_25 : decode cX6_init 25 = .ok (.putfield 18, 3) := by decide +kernel
theorem dX6_init_28 : decode cX6_init 28 = .ok (.aload_n 0, 1) := by decide +kernel
theorem dX6_init_29 : decode cX6_init 29 = .ok (.bipush 16, 2) := by decide +kernel
theorem dX6_init_31 : decode cX6_init 31 = .ok (.newarray .int, 2) := by decide +kernel
theorem dX6_init_33 : decode cX6_init 33 = .ok (.putfield 21, 3) := by decide +kernel
theorem dX6_init_36 : decode cX6_init 36 = .ok (.aload_n 0, 1) := by decide +kernel
theorem dX6_init_37 : decode cX6_init 37 = .ok (.iconst 0, 1) := by decide +kernel
theorem dX6_init_38 : decode cX6_init 38 = .ok (.putfield 24, 3) := by decide +kernel
theorem dX6_init_41 : decode cX6_init 41 = .ok (.aload_n 0, 1) := by decide +kernel
theorem dX6_init_42 : decode cX6_init 42 = .ok (.iconst 1, 1) := by decide +kernel
theorem dX6_init_43 : decode cX6_init 43 = .ok (.putfield 28, 3) := by decide +kernel
theorem dX6_init_46 : decode cX6_init 46 = .ok (.return_, 1) := by decide +kernel
theorem dX6_placeOf_0 : decode cX6_placeOf 0 = .ok (.iconst 4, 1) := by decide +kernel
theorem dX6_placeOf_1 : decode cX6_placeOf 1 = .ok (.iload_n 0, 1) := by decide +kernel
theorem dX6_placeOf_2 : decode cX6_placeOf 2 = .ok (.imul, 1) := by decide +kernel
theorem dX6_placeOf_3 : decode cX6_placeOf 3 = .ok (.iload_n 1, 1) := by decide +kernel
theorem dX6_placeOf_4 : decode cX6_placeOf 4 = .ok (.iadd, 1) := by decide +kernel
theorem dX6_placeOf_5 : decode cX6_placeOf 5 = .ok (.ireturn, 1) := by decide +kernel
theorem dX6_mine_0 : decode cX6_mine 0 = .ok (.iload_n 0, 1) := by decide +kernel
theorem dX6_mine_1 : decode cX6_mine 1 = .ok (.iconst 4, 1) := by decide +kernel
theorem dX6_mine_2 : decode cX6_mine 2 = .ok (.idiv, 1) := by decide +kernel
theorem dX6_mine_3 : decode cX6_mine 3 = .ok (.ireturn, 1) := by decide +kernel
theorem dX6_theirs_0 : decode cX6_theirs 0 = .ok (.iload_n 0, 1) := by decide +kernel
theorem dX6_theirs_1 : decode cX6_theirs 1 = .ok (.iconst 4, 1) := by decide +kernel
theorem dX6_theirs_2 : decode cX6_theirs 2 = .ok (.irem, 1) := by decide +kernel
theorem dX6_theirs_3 : decode cX6_theirs 3 = .ok (.ireturn, 1) := by decide +kernel
set_option maxRecDepth 20000 in
theorem ggX6_takeMatch_X2_statesOf : GoodIn wsX6_takeMatch wsX2_statesOf := goodIn_r _ [7, 8, 35, 36, 37, 38] (by decide +kernel) (by decide +kernel)
set_option maxRecDepth 20000 in
theorem gX6_takeMatch_X2_statesOf : GoodIn wsX6_takeMatch (wsV RX6 31 RX2 yX2_statesOf wsX2_statesOf) := goodIn_app (goodIn_of _ (by decide +kernel)) ggX6_takeMatch_X2_statesOf
set_option maxRecDepth 20000 in
theorem ggX6_takeMatch_X2_actionOf : GoodIn wsX6_takeMatch wsX2_actionOf := goodIn_r _ [12, 13, 35, 36, 37, 38] (by decide +kernel) (by decide +kernel)
set_option maxRecDepth 20000 in
theorem gX6_takeMatch_X2_actionOf : GoodIn wsX6_takeMatch (wsV RX6 35 RX2 yX2_actionOf wsX2_actionOf) := goodIn_app (goodIn_of _ (by decide +kernel)) ggX6_takeMatch_X2_actionOf
set_option maxRecDepth 20000 in
theorem ggX6_takeMatch_X6_placeOf : GoodIn wsX6_takeMatch wsX6_placeOf := goodIn_r _ [17] (by decide +kernel) (by decide +kernel)
set_option maxRecDepth 20000 in
theorem gX6_takeMatch_X6_placeOf : GoodIn wsX6_takeMatch (va_wsS RX6 39 yX6_placeOf wsX6_placeOf) := goodIn_app (goodIn_of _ (by decide +kernel)) ggX6_takeMatch_X6_placeOf
set_option maxRecDepth 20000 in
theorem ggX6_takeMatch_X2_nextOf : GoodIn wsX6_takeMatch wsX2_nextOf := goodIn_r _ [21, 22, 35, 36, 37, 38] (by decide +kernel) (by decide +kernel)
set_option maxRecDepth 20000 in
theorem gX6_takeMatch_X2_nextOf : GoodIn wsX6_takeMatch (wsV RX6 42 RX2 yX2_nextOf wsX2_nextOf) := goodIn_app (goodIn_of _ (by decide +kernel)) ggX6_takeMatch_X2_nextOf
set_option maxRecDepth 20000 in
theorem ggX6_takeMatch_X0_gain : GoodIn wsX6_takeMatch wsX0_gain := goodIn_r _ [27, 28, 39, 40, 41] (by decide +kernel) (by decide +kernel)
set_option maxRecDepth 20000 in
theorem gX6_takeMatch_X0_gain : GoodIn wsX6_takeMatch (wsV RX6 46 RX0 yX0_gain wsX0_gain) := goodIn_app (goodIn_of _ (by decide +kernel)) ggX6_takeMatch_X0_gain
theorem dX6_takeMatch_0 : decode cX6_takeMatch 0 = .ok (.iconst 0, 1) := by decide +kernel
theorem dX6_takeMatch_1 : decode cX6_takeMatch 1 = .ok (.istore 5, 2) := by decide +kernel
theorem dX6_takeMatch_3 : decode cX6_takeMatch 3 = .ok (.iload 5, 2) := by decide +kernel
theorem dX6_takeMatch_5 : decode cX6_takeMatch 5 = .ok (.aload_n 2, 1) := by decide +kernel
theorem dX6_takeMatch_6 : decode cX6_takeMatch 6 = .ok (.iload_n 3, 1) := by decide +kernel
theorem dX6_takeMatch_7 : decode cX6_takeMatch 7 = .ok (.invokevirtual 31, 3) := by decide +kernel
theorem dX6_takeMatch_10 : decode cX6_takeMatch 10 = .ok (.if_icmp .ge 102, 3) := by decide +kernel
theorem dX6_takeMatch_13 : decode cX6_takeMatch 13 = .ok (.aload_n 2, 1) := by decide +kernel
theorem dX6_takeMatch_14 : decode cX6_takeMatch 14 = .ok (.iload_n 3, 1) := by decide +kernel
theorem dX6_takeMatch_15 : decode cX6_takeMatch 15 = .ok (.iload 5, 2) := by decide +kernel
theorem dX6_takeMatch_17 : decode cX6_takeMatch 17 = .ok (.invokevirtual 35, 3) := by decide +kernel
theorem dX6_takeMatch_20 : decode cX6_takeMatch 20 = .ok (.istore 6, 2) := by decide +kernel
theorem dX6_takeMatch_22 : decode cX6_takeMatch 22 = .ok (.iconst 0, 1) := by decide +kernel
theorem dX6_takeMatch_23 : decode cX6_takeMatch 23 = .ok (.istore 7, 2) := by decide +kernel
theorem dX6_takeMatch_25 : decode cX6_takeMatch 25 = .ok (.iload 7, 2) := by decide +kernel
theorem dX6_takeMatch_27 : decode cX6_takeMatch 27 = .ok (.aload_n 2, 1) := by decide +kernel
theorem dX6_takeMatch_28 : decode cX6_takeMatch 28 = .ok (.iload 4, 2) := by decide +kernel
theorem dX6_takeMatch_30 : decode cX6_takeMatch 30 = .ok (.invokevirtual 31, 3) := by decide +kernel
theorem dX6_takeMatch_33 : decode cX6_takeMatch 33 = .ok (.if_icmp .ge 73, 3) := by decide +kernel
theorem dX6_takeMatch_36 : decode cX6_takeMatch 36 = .ok (.aload_n 2, 1) := by decide +kernel
theorem dX6_takeMatch_37 : decode cX6_takeMatch 37 = .ok (.iload 4, 2) := by decide +kernel
theorem dX6_takeMatch_39 : decode cX6_takeMatch 39 = .ok (.iload 7, 2) := by decide +kernel
theorem dX6_takeMatch_41 : decode cX6_takeMatch 41 = .ok (.invokevirtual 35, 3) := by decide +kernel
theorem dX6_takeMatch_44 : decode cX6_takeMatch 44 = .ok (.istore 8, 2) := by decide +kernel
theorem dX6_takeMatch_46 : decode cX6_takeMatch 46 = .ok (.aload_n 0, 1) := by decide +kernel
theorem dX6_takeMatch_47 : decode cX6_takeMatch 47 = .ok (.getfield 11, 3) := by decide +kernel
theorem dX6_takeMatch_50 : decode cX6_takeMatch 50 = .ok (.iload 5, 2) := by decide +kernel
theorem dX6_takeMatch_52 : decode cX6_takeMatch 52 = .ok (.iload 7, 2) := by decide +kernel
theorem dX6_takeMatch_54 : decode cX6_takeMatch 54 = .ok (.invokestatic 39, 3) := by decide +kernel
theorem dX6_takeMatch_57 : decode cX6_takeMatch 57 = .ok (.aload_n 2, 1) := by decide +kernel
theorem dX6_takeMatch_58 : decode cX6_takeMatch 58 = .ok (.iload_n 3, 1) := by decide +kernel
theorem dX6_takeMatch_59 : decode cX6_takeMatch 59 = .ok (.iload 5, 2) := by decide +kernel
theorem dX6_takeMatch_61 : decode cX6_takeMatch 61 = .ok (.iload 8, 2) := by decide +kernel
theorem dX6_takeMatch_63 : decode cX6_takeMatch 63 = .ok (.invokevirtual 42, 3) := by decide +kernel
theorem dX6_takeMatch_66 : decode cX6_takeMatch 66 = .ok (.aload_n 2, 1) := by decide +kernel
theorem dX6_takeMatch_67 : decode cX6_takeMatch 67 = .ok (.iload 4, 2) := by decide +kernel
theorem dX6_takeMatch_69 : decode cX6_takeMatch 69 = .ok (.iload 7, 2) := by decide +kernel
theorem dX6_takeMatch_71 : decode cX6_takeMatch 71 = .ok (.iload 6, 2) := by decide +kernel
theorem dX6_takeMatch_73 : decode cX6_takeMatch 73 = .ok (.invokevirtual 42, 3) := by decide +kernel
theorem dX6_takeMatch_76 : decode cX6_takeMatch 76 = .ok (.invokestatic 39, 3) := by decide +kernel
theorem dX6_takeMatch_79 : decode cX6_takeMatch 79 = .ok (.iastore, 1) := by decide +kernel
theorem dX6_takeMatch_80 : decode cX6_takeMatch 80 = .ok (.aload_n 0, 1) := by decide +kernel
theorem dX6_takeMatch_81 : decode cX6_takeMatch 81 = .ok (.getfield 15, 3) := by decide +kernel
theorem dX6_takeMatch_84 : decode cX6_takeMatch 84 = .ok (.iload 5, 2) := by decide +kernel
theorem dX6_takeMatch_86 : decode cX6_takeMatch 86 = .ok (.iload 7, 2) := by decide +kernel
theorem dX6_takeMatch_88 : decode cX6_takeMatch 88 = .ok (.invokestatic 39, 3) := by decide +kernel
theorem dX6_takeMatch_91 : decode cX6_takeMatch 91 = .ok (.aload_n 1, 1) := by decide +kernel
theorem dX6_takeMatch_92 : decode cX6_takeMatch 92 = .ok (.iload 6, 2) := by decide +kernel
theorem dX6_takeMatch_94 : decode cX6_takeMatch 94 = .ok (.iload 8, 2) := by decide +kernel
theorem dX6_takeMatch_96 : decode cX6_takeMatch 96 = .ok (.invokevirtual 46, 3) := by decide +kernel
theorem dX6_takeMatch_99 : decode cX6_takeMatch 99 = .ok (.iastore, 1) := by decide +kernel
theorem dX6_takeMatch_100 : decode cX6_takeMatch 100 = .ok (.iinc 7 1, 3) := by decide +kernel
theorem dX6_takeMatch_103 : decode cX6_takeMatch 103 = .ok (.goto (-78), 3) := by decide +kernel
theorem dX6_takeMatch_106 : decode cX6_takeMatch 106 = .ok (.iinc 5 1, 3) := by decide +kernel
theorem dX6_takeMatch_109 : decode cX6_takeMatch 109 = .ok (.goto (-106), 3) := by decide +kernel
theorem dX6_takeMatch_112 : decode cX6_takeMatch 112 = .ok (.return_, 1) := by decide +kernel
set_option maxRecDepth 20000 in
theorem ggX6_takePlan_X2_statesOf : GoodIn wsX6_takePlan wsX2_statesOf := goodIn_r _ [7, 8, 31, 32, 33, 34] (by decide +kernel) (by decide +kernel)
set_option maxRecDepth 20000 in
theorem gX6_takePlan_X2_statesOf : GoodIn wsX6_takePlan (wsV RX6 31 RX2 yX2_statesOf wsX2_statesOf) := goodIn_app (goodIn_of _ (by decide +kernel)) ggX6_takePlan_X2_statesOf
set_option maxRecDepth 20000 in
theorem ggX6_takePlan_X2_nextOf : GoodIn wsX6_takePlan wsX2_nextOf := goodIn_r _ [12, 13, 31, 32, 33, 34] (by decide +kernel) (by decide +kernel)
set_option maxRecDepth 20000 in
theorem gX6_takePlan_X2_nextOf : GoodIn wsX6_takePlan (wsV RX6 42 RX2 yX2_nextOf wsX2_nextOf) := goodIn_app (goodIn_of _ (by decide +kernel)) ggX6_takePlan_X2_nextOf
set_option maxRecDepth 20000 in
theorem ggX6_takePlan_X2_actionOf : GoodIn wsX6_takePlan wsX2_actionOf := goodIn_r _ [17, 18, 31, 32, 33, 34] (by decide +kernel) (by decide +kernel)
set_option maxRecDepth 20000 in
theorem gX6_takePlan_X2_actionOf : GoodIn wsX6_takePlan (wsV RX6 35 RX2 yX2_actionOf wsX2_actionOf) := goodIn_app (goodIn_of _ (by decide +kernel)) ggX6_takePlan_X2_actionOf
set_option maxRecDepth 20000 in
theorem ggX6_takePlan_X0_gain : GoodIn wsX6_takePlan wsX0_gain := goodIn_r _ [23, 24, 35, 36, 37] (by decide +kernel) (by decide +kernel)
set_option maxRecDepth 20000 in
theorem gX6_takePlan_X0_gain : GoodIn wsX6_takePlan (wsV RX6 46 RX0 yX0_gain wsX0_gain) := goodIn_app (goodIn_of _ (by decide +kernel)) ggX6_takePlan_X0_gain
theorem dX6_takePlan_0 : decode cX6_takePlan 0 = .ok (.iload 4, 2) := by decide +kernel
theorem dX6_takePlan_2 : decode cX6_takePlan 2 = .ok (.istore 5, 2) := by decide +kernel
theorem dX6_takePlan_4 : decode cX6_takePlan 4 = .ok (.iconst 0, 1) := by decide +kernel
theorem dX6_takePlan_5 : decode cX6_takePlan 5 = .ok (.istore 6, 2) := by decide +kernel
theorem dX6_takePlan_7 : decode cX6_takePlan 7 = .ok (.iload 6, 2) := by decide +kernel
theorem dX6_takePlan_9 : decode cX6_takePlan 9 = .ok (.aload_n 2, 1) := by decide +kernel
theorem dX6_takePlan_10 : decode cX6_takePlan 10 = .ok (.iload_n 3, 1) := by decide +kernel
theorem dX6_takePlan_11 : decode cX6_takePlan 11 = .ok (.invokevirtual 31, 3) := by decide +kernel
theorem dX6_takePlan_14 : decode cX6_takePlan 14 = .ok (.if_icmp .ge 57, 3) := by decide +kernel
theorem dX6_takePlan_17 : decode cX6_takePlan 17 = .ok (.iload 5, 2) := by decide +kernel
theorem dX6_takePlan_19 : decode cX6_takePlan 19 = .ok (.iconst 3, 1) := by decide +kernel
theorem dX6_takePlan_20 : decode cX6_takePlan 20 = .ok (.irem, 1) := by decide +kernel
theorem dX6_takePlan_21 : decode cX6_takePlan 21 = .ok (.istore 7, 2) := by decide +kernel
theorem dX6_takePlan_23 : decode cX6_takePlan 23 = .ok (.iload 5, 2) := by decide +kernel
theorem dX6_takePlan_25 : decode cX6_takePlan 25 = .ok (.iconst 3, 1) := by decide +kernel
theorem dX6_takePlan_26 : decode cX6_takePlan 26 = .ok (.idiv, 1) := by decide +kernel
theorem dX6_takePlan_27 : decode cX6_takePlan 27 = .ok (.istore 5, 2) := by decide +kernel
theorem dX6_takePlan_29 : decode cX6_takePlan 29 = .ok (.aload_n 0, 1) := by decide +kernel
theorem dX6_takePlan_30 : decode cX6_takePlan 30 = .ok (.getfield 11, 3) := by decide +kernel
theorem dX6_takePlan_33 : decode cX6_takePlan 33 = .ok (.iload 6, 2) := by decide +kernel
theorem dX6_takePlan_35 : decode cX6_takePlan 35 = .ok (.aload_n 2, 1) := by decide +kernel
theorem dX6_takePlan_36 : decode cX6_takePlan 36 = .ok (.iload_n 3, 1) := by decide +kernel
theorem dX6_takePlan_37 : decode cX6_takePlan 37 = .ok (.iload 6, 2) := by decide +kernel
theorem dX6_takePlan_39 : decode cX6_takePlan 39 = .ok (.iload 7, 2) := by decide +kernel
theorem dX6_takePlan_41 : decode cX6_takePlan 41 = .ok (.invokevirtual 42, 3) := by decide +kernel
theorem dX6_takePlan_44 : decode cX6_takePlan 44 = .ok (.iastore, 1) := by decide +kernel
theorem dX6_takePlan_45 : decode cX6_takePlan 45 = .ok (.aload_n 0, 1) := by decide +kernel
theorem dX6_takePlan_46 : decode cX6_takePlan 46 = .ok (.getfield 15, 3) := by decide +kernel
theorem dX6_takePlan_49 : decode cX6_takePlan 49 = .ok (.iload 6, 2) := by decide +kernel
theorem dX6_takePlan_51 : decode cX6_takePlan 51 = .ok (.aload_n 1, 1) := by decide +kernel
theorem dX6_takePlan_52 : decode cX6_takePlan 52 = .ok (.iload 7, 2) := by decide +kernel
theorem dX6_takePlan_54 : decode cX6_takePlan 54 = .ok (.aload_n 2, 1) := by decide +kernel
theorem dX6_takePlan_55 : decode cX6_takePlan 55 = .ok (.iload_n 3, 1) := by decide +kernel
theorem dX6_takePlan_56 : decode cX6_takePlan 56 = .ok (.iload 6, 2) := by decide +kernel
theorem dX6_takePlan_58 : decode cX6_takePlan 58 = .ok (.invokevirtual 35, 3) := by decide +kernel
theorem dX6_takePlan_61 : decode cX6_takePlan 61 = .ok (.invokevirtual 46, 3) := by decide +kernel
theorem dX6_takePlan_64 : decode cX6_takePlan 64 = .ok (.iastore, 1) := by decide +kernel
theorem dX6_takePlan_65 : decode cX6_takePlan 65 = .ok (.iinc 6 1, 3) := by decide +kernel
theorem dX6_takePlan_68 : decode cX6_takePlan 68 = .ok (.goto (-61), 3) := by decide +kernel
theorem dX6_takePlan_71 : decode cX6_takePlan 71 = .ok (.return_, 1) := by decide +kernel
set_option maxRecDepth 20000 in
theorem ggX6_startAt_J7_fill_53178 : GoodIn wsX6_startAt wsJ7_fill_53178 := goodIn_r _ [9] (by decide +kernel) (by decide +kernel)
set_option maxRecDepth 20000 in
theorem gX6_startAt_J7_fill_53178 : GoodIn wsX6_startAt (va_wsS RX6 51 yJ7_fill_53178 wsJ7_fill_53178) := goodIn_app (goodIn_of _ (by decide +kernel)) ggX6_startAt_J7_fill_53178
theorem dX6_startAt_0 : decode cX6_startAt 0 = .ok (.aload_n 0, 1) := by decide +kernel
theorem dX6_startAt_1 : decode cX6_startAt 1 = .ok (.getfield 18, 3) := by decide +kernel
theorem dX6_startAt_4 : decode cX6_startAt 4 = .ok (.iconst (-1), 1) := by decide +kernel
theorem dX6_startAt_5 : decode cX6_startAt 5 = .ok (.invokestatic 51, 3) := by decide +kernel
theorem dX6_startAt_8 : decode cX6_startAt 8 = .ok (.iload_n 1, 1) := by decide +kernel
theorem dX6_startAt_9 : decode cX6_startAt 9 = .ok (.istore_n 2, 1) := by decide +kernel
theorem dX6_startAt_10 : decode cX6_startAt 10 = .ok (.iconst 0, 1) := by decide +kernel
theorem dX6_startAt_11 : decode cX6_startAt 11 = .ok (.istore_n 3, 1) := by decide +kernel
theorem dX6_startAt_12 : decode cX6_startAt 12 = .ok (.iload_n 3, 1) := by decide +kernel
theorem dX6_startAt_13 : decode cX6_startAt 13 = .ok (.bipush 16, 2) := by decide +kernel
theorem dX6_startAt_15 : decode cX6_startAt 15 = .ok (.if_icmp .ge 39, 3) := by decide +kernel
theorem dX6_startAt_18 : decode cX6_startAt 18 = .ok (.aload_n 0, 1) := by decide +kernel
theorem dX6_startAt_19 : decode cX6_startAt 19 = .ok (.getfield 18, 3) := by decide +kernel
theorem dX6_startAt_22 : decode cX6_startAt 22 = .ok (.iload_n 2, 1) := by decide +kernel
theorem dX6_startAt_23 : decode cX6_startAt 23 = .ok (.iaload, 1) := by decide +kernel
theorem dX6_startAt_24 : decode cX6_startAt 24 = .ok (.ifCond .ge 30, 3) := by decide +kernel
theorem dX6_startAt_27 : decode cX6_startAt 27 = .ok (.aload_n 0, 1) := by decide +kernel
theorem dX6_startAt_28 : decode cX6_startAt 28 = .ok (.getfield 18, 3) := by decide +kernel
theorem dX6_startAt_31 : decode cX6_startAt 31 = .ok (.iload_n 2, 1) := by decide +kernel
theorem dX6_startAt_32 : decode cX6_startAt 32 = .ok (.iload_n 3, 1) := by decide +kernel
theorem dX6_startAt_33 : decode cX6_startAt 33 = .ok (.iastore, 1) := by decide +kernel
theorem dX6_startAt_34 : decode cX6_startAt 34 = .ok (.aload_n 0, 1) := by decide +kernel
theorem dX6_startAt_35 : decode cX6_startAt 35 = .ok (.getfield 21, 3) := by decide +kernel
theorem dX6_startAt_38 : decode cX6_startAt 38 = .ok (.iload_n 3, 1) := by decide +kernel
theorem dX6_startAt_39 : decode cX6_startAt 39 = .ok (.iload_n 2, 1) := by decide +kernel
theorem dX6_startAt_40 : decode cX6_startAt 40 = .ok (.iastore, 1) := by decide +kernel
theorem dX6_startAt_41 : decode cX6_startAt 41 = .ok (.aload_n 0, 1) := by decide +kernel
theorem dX6_startAt_42 : decode cX6_startAt 42 = .ok (.getfield 11, 3) := by decide +kernel
theorem dX6_startAt_45 : decode cX6_startAt 45 = .ok (.iload_n 2, 1) := by decide +kernel
theorem dX6_startAt_46 : decode cX6_startAt 46 = .ok (.iaload, 1) := by decide +kernel
theorem dX6_startAt_47 : decode cX6_startAt 47 = .ok (.istore_n 2, 1) := by decide +kernel
theorem dX6_startAt_48 : decode cX6_startAt 48 = .ok (.iinc 3 1, 3) := by decide +kernel
theorem dX6_startAt_51 : decode cX6_startAt 51 = .ok (.goto (-39), 3) := by decide +kernel
theorem dX6_startAt_54 : decode cX6_startAt 54 = .ok (.aload_n 0, 1) := by decide +kernel
theorem dX6_startAt_55 : decode cX6_startAt 55 = .ok (.aload_n 0, 1) := by decide +kernel
theorem dX6_startAt_56 : decode cX6_startAt 56 = .ok (.getfield 18, 3) := by decide +kernel
theorem dX6_startAt_59 : decode cX6_startAt 59 = .ok (.iload_n 2, 1) := by decide +kernel
theorem dX6_startAt_60 : decode cX6_startAt 60 = .ok (.iaload, 1) := by decide +kernel
theorem dX6_startAt_61 : decode cX6_startAt 61 = .ok (.putfield 24, 3) := by decide +kernel
theorem dX6_startAt_64 : decode cX6_startAt 64 = .ok (.aload_n 0, 1) := by decide +kernel
theorem dX6_startAt_65 : decode cX6_startAt 65 = .ok (.iload_n 3, 1) := by decide +kernel
theorem dX6_startAt_66 : decode cX6_startAt 66 = .ok (.aload_n 0, 1) := by decide +kernel
theorem dX6_startAt_67 : decode cX6_startAt 67 = .ok (.getfield 24, 3) := by decide +kernel
theorem dX6_startAt_70 : decode cX6_startAt 70 = .ok (.isub, 1) := by decide +kernel
theorem dX6_startAt_71 : decode cX6_startAt 71 = .ok (.putfield 28, 3) := by decide +kernel
theorem dX6_startAt_74 : decode cX6_startAt 74 = .ok (.return_, 1) := by decide +kernel
theorem dX6_tail_0 : decode cX6_tail 0 = .ok (.aload_n 0, 1) := by decide +kernel
theorem dX6_tail_1 : decode cX6_tail 1 = .ok (.getfield 24, 3) := by decide +kernel
theorem dX6_tail_4 : decode cX6_tail 4 = .ok (.ireturn, 1) := by decide +kernel
theorem dX6_ring_0 : decode cX6_ring 0 = .ok (.aload_n 0, 1) := by decide +kernel
theorem dX6_ring_1 : decode cX6_ring 1 = .ok (.getfield 28, 3) := by decide +kernel
theorem dX6_ring_4 : decode cX6_ring 4 = .ok (.ireturn, 1) := by decide +kernel
theorem dX6_placeIn_0 : decode cX6_placeIn 0 = .ok (.aload_n 0, 1) := by decide +kernel
theorem dX6_placeIn_1 : decode cX6_placeIn 1 = .ok (.getfield 21, 3) := by decide +kernel
theorem dX6_placeIn_4 : decode cX6_placeIn 4 = .ok (.iload_n 1, 1) := by decide +kernel
theorem dX6_placeIn_5 : decode cX6_placeIn 5 = .ok (.aload_n 0, 1) := by decide +kernel
theorem dX6_placeIn_6 : decode cX6_placeIn 6 = .ok (.getfield 24, 3) := by decide +kernel
theorem dX6_placeIn_9 : decode cX6_placeIn 9 = .ok (.if_icmp .ge 7, 3) := by decide +kernel
theorem dX6_placeIn_12 : decode cX6_placeIn 12 = .ok (.iload_n 1, 1) := by decide +kernel
theorem dX6_placeIn_13 : decode cX6_placeIn 13 = .ok (.goto 19, 3) := by decide +kernel
theorem dX6_placeIn_16 : decode cX6_placeIn 16 = .ok (.aload_n 0, 1) := by decide +kernel
theorem dX6_placeIn_17 : decode cX6_placeIn 17 = .ok (.getfield 24, 3) := by decide +kernel
theorem dX6_placeIn_20 : decode cX6_placeIn 20 = .ok (.iload_n 1, 1) := by decide +kernel
theorem dX6_placeIn_21 : decode cX6_placeIn 21 = .ok (.aload_n 0, 1) := by decide +kernel
theorem dX6_placeIn_22 : decode cX6_placeIn 22 = .ok (.getfield 24, 3) := by decide +kernel
theorem dX6_placeIn_25 : decode cX6_placeIn 25 = .ok (.isub, 1) := by decide +kernel
theorem dX6_placeIn_26 : decode cX6_placeIn 26 = .ok (.aload_n 0, 1) := by decide +kernel
theorem dX6_placeIn_27 : decode cX6_placeIn 27 = .ok (.getfield 28, 3) := by decide +kernel
theorem dX6_placeIn_30 : decode cX6_placeIn 30 = .ok (.irem, 1) := by decide +kernel
theorem dX6_placeIn_31 : decode cX6_placeIn 31 = .ok (.iadd, 1) := by decide +kernel
theorem dX6_placeIn_32 : decode cX6_placeIn 32 = .ok (.iaload, 1) := by decide +kernel
theorem dX6_placeIn_33 : decode cX6_placeIn 33 = .ok (.ireturn, 1) := by decide +kernel
set_option maxRecDepth 20000 in
theorem ggX6_tailGains_X6_gainsAlong : GoodIn wsX6_tailGains wsX6_gainsAlong := goodIn_r _ [6, 7, 8, 9, 10, 11, 12, 13, 14] (by decide +kernel) (by decide +kernel)
set_option maxRecDepth 20000 in
theorem gX6_tailGains_X6_gainsAlong : GoodIn wsX6_tailGains (wsV RX6 57 RX6 yX6_gainsAlong wsX6_gainsAlong) := goodIn_app (goodIn_of _ (by decide +kernel)) ggX6_tailGains_X6_gainsAlong
theorem dX6_tailGains_0 : decode cX6_tailGains 0 = .ok (.aload_n 0, 1) := by decide +kernel
theorem dX6_tailGains_1 : decode cX6_tailGains 1 = .ok (.iconst 0, 1) := by decide +kernel
theorem dX6_tailGains_2 : decode cX6_tailGains 2 = .ok (.aload_n 0, 1) := by decide +kernel
theorem dX6_tailGains_3 : decode cX6_tailGains 3 = .ok (.getfield 24, 3) := by decide +kernel
theorem dX6_tailGains_6 : decode cX6_tailGains 6 = .ok (.invokevirtual 57, 3) := by decide +kernel
theorem dX6_tailGains_9 : decode cX6_tailGains 9 = .ok (.ireturn, 1) := by decide +kernel
set_option maxRecDepth 20000 in
theorem ggX6_ringGains_X6_gainsAlong : GoodIn wsX6_ringGains wsX6_gainsAlong := goodIn_r _ [7, 8, 9, 10, 11, 12, 13, 14, 15] (by decide +kernel) (by decide +kernel)
set_option maxRecDepth 20000 in
theorem gX6_ringGains_X6_gainsAlong : GoodIn wsX6_ringGains (wsV RX6 57 RX6 yX6_gainsAlong wsX6_gainsAlong) := goodIn_app (goodIn_of _ (by decide +kernel)) ggX6_ringGains_X6_gainsAlong
theorem dX6_ringGains_0 : decode cX6_ringGains 0 = .ok (.aload_n 0, 1) := by decide +kernel
theorem dX6_ringGains_1 : decode cX6_ringGains 1 = .ok (.aload_n 0, 1) := by decide +kernel
theorem dX6_ringGains_2 : decode cX6_ringGains 2 = .ok (.getfield 24, 3) := by decide +kernel
theorem dX6_ringGains_5 : decode cX6_ringGains 5 = .ok (.aload_n 0, 1) := by decide +kernel
theorem dX6_ringGains_6 : decode cX6_ringGains 6 = .ok (.getfield 28, 3) := by decide +kernel
theorem dX6_ringGains_9 : decode cX6_ringGains 9 = .ok (.invokevirtual 57, 3) := by decide +kernel
theorem dX6_ringGains_12 : decode cX6_ringGains 12 = .ok (.ireturn, 1) := by decide +kernel
set_option maxRecDepth 20000 in
theorem ggX6_gainsOfFirst_X6_gainsAlong : GoodIn wsX6_gainsOfFirst wsX6_gainsAlong := goodIn_r _ [7, 8, 9, 18, 19, 20, 21, 22, 23] (by decide +kernel) (by decide +kernel)
set_option maxRecDepth 20000 in
theorem gX6_gainsOfFirst_X6_gainsAlong : GoodIn wsX6_gainsOfFirst (wsV RX6 57 RX6 yX6_gainsAlong wsX6_gainsAlong) := goodIn_app (goodIn_of _ (by decide +kernel)) ggX6_gainsOfFirst_X6_gainsAlong
set_option maxRecDepth 20000 in
theorem ggX6_gainsOfFirst_X6_tailGains : GoodIn wsX6_gainsOfFirst wsX6_tailGains := goodIn_r _ [13, 1, 3, 4, 5, 6, 7, 8, 9, 18, 19, 20, 21, 22, 23] (by decide +kernel) (by decide +kernel)
set_option maxRecDepth 20000 in
theorem gX6_gainsOfFirst_X6_tailGains : GoodIn wsX6_gainsOfFirst (wsV RX6 60 RX6 yX6_tailGains wsX6_tailGains) := goodIn_app (goodIn_of _ (by decide +kernel)) ggX6_gainsOfFirst_X6_tailGains
set_option maxRecDepth 20000 in
theorem ggX6_gainsOfFirst_X6_ringGains : GoodIn wsX6_gainsOfFirst wsX6_ringGains := goodIn_r _ [17, 1, 2, 3, 4, 5, 6, 7, 8, 9, 18, 19, 20, 21, 22, 23] (by decide +kernel) (by decide +kernel)
set_option maxRecDepth 20000 in
theorem gX6_gainsOfFirst_X6_ringGains : GoodIn wsX6_gainsOfFirst (wsV RX6 64 RX6 yX6_ringGains wsX6_ringGains) := goodIn_app (goodIn_of _ (by decide +kernel)) ggX6_gainsOfFirst_X6_ringGains
theorem dX6_gainsOfFirst_0 : decode cX6_gainsOfFirst 0 = .ok (.iload_n 1, 1) := by decide +kernel
theorem dX6_gainsOfFirst_1 : decode cX6_gainsOfFirst 1 = .ok (.aload_n 0, 1) := by decide +kernel
theorem dX6_gainsOfFirst_2 : decode cX6_gainsOfFirst 2 = .ok (.getfield 24, 3) := by decide +kernel
theorem dX6_gainsOfFirst_5 : decode cX6_gainsOfFirst 5 = .ok (.if_icmp .gt 10, 3) := by decide +kernel
theorem dX6_gainsOfFirst_8 : decode cX6_gainsOfFirst 8 = .ok (.aload_n 0, 1) := by decide +kernel
theorem dX6_gainsOfFirst_9 : decode cX6_gainsOfFirst 9 = .ok (.iconst 0, 1) := by decide +kernel
theorem dX6_gainsOfFirst_10 : decode cX6_gainsOfFirst 10 = .ok (.iload_n 1, 1) := by decide +kernel
theorem dX6_gainsOfFirst_11 : decode cX6_gainsOfFirst 11 = .ok (.invokevirtual 57, 3) := by decide +kernel
theorem dX6_gainsOfFirst_14 : decode cX6_gainsOfFirst 14 = .ok (.ireturn, 1) := by decide +kernel
theorem dX6_gainsOfFirst_15 : decode cX6_gainsOfFirst 15 = .ok (.iload_n 1, 1) := by decide +kernel
theorem dX6_gainsOfFirst_16 : decode cX6_gainsOfFirst 16 = .ok (.aload_n 0, 1) := by decide +kernel
theorem dX6_gainsOfFirst_17 : decode cX6_gainsOfFirst 17 = .ok (.getfield 24, 3) := by decide +kernel
theorem dX6_gainsOfFirst_20 : decode cX6_gainsOfFirst 20 = .ok (.isub, 1) := by decide +kernel
theorem dX6_gainsOfFirst_21 : decode cX6_gainsOfFirst 21 = .ok (.istore_n 2, 1) := by decide +kernel
theorem dX6_gainsOfFirst_22 : decode cX6_gainsOfFirst 22 = .ok (.aload_n 0, 1) := by decide +kernel
theorem dX6_gainsOfFirst_23 : decode cX6_gainsOfFirst 23 = .ok (.invokevirtual 60, 3) := by decide +kernel
theorem dX6_gainsOfFirst_26 : decode cX6_gainsOfFirst 26 = .ok (.iload_n 2, 1) := by decide +kernel
theorem dX6_gainsOfFirst_27 : decode cX6_gainsOfFirst 27 = .ok (.aload_n 0, 1) := by decide +kernel
theorem dX6_gainsOfFirst_28 : decode cX6_gainsOfFirst 28 = .ok (.getfield 28, 3) := by decide +kernel
theorem dX6_gainsOfFirst_31 : decode cX6_gainsOfFirst 31 = .ok (.idiv, 1) := by decide +kernel
theorem dX6_gainsOfFirst_32 : decode cX6_gainsOfFirst 32 = .ok (.aload_n 0, 1) := by decide +kernel
theorem dX6_gainsOfFirst_33 : decode cX6_gainsOfFirst 33 = .ok (.invokevirtual 64, 3) := by decide +kernel
theorem dX6_gainsOfFirst_36 : decode cX6_gainsOfFirst 36 = .ok (.imul, 1) := by decide +kernel
theorem dX6_gainsOfFirst_37 : decode cX6_gainsOfFirst 37 = .ok (.iadd, 1) := by decide +kernel
theorem dX6_gainsOfFirst_38 : decode cX6_gainsOfFirst 38 = .ok (.aload_n 0, 1) := by decide +kernel
theorem dX6_gainsOfFirst_39 : decode cX6_gainsOfFirst 39 = .ok (.aload_n 0, 1) := by decide +kernel
theorem dX6_gainsOfFirst_40 : decode cX6_gainsOfFirst 40 = .ok (.getfield 24, 3) := by decide +kernel
theorem dX6_gainsOfFirst_43 : decode cX6_gainsOfFirst 43 = .ok (.iload_n 2, 1) := by decide +kernel
theorem dX6_gainsOfFirst_44 : decode cX6_gainsOfFirst 44 = .ok (.aload_n 0, 1) := by decide +kernel
theorem dX6_gainsOfFirst_45 : decode cX6_gainsOfFirst 45 = .ok (.getfield 28, 3) := by decide +kernel
theorem dX6_gainsOfFirst_48 : decode cX6_gainsOfFirst 48 = .ok (.irem, 1) := by decide +kernel
theorem dX6_gainsOfFirst_49 : decode cX6_gainsOfFirst 49 = .ok (.invokevirtual 57, 3) := by decide +kernel
theorem dX6_gainsOfFirst_52 : decode cX6_gainsOfFirst 52 = .ok (.iadd, 1) := by decide +kernel
theorem dX6_gainsOfFirst_53 : decode cX6_gainsOfFirst 53 = .ok (.ireturn, 1) := by decide +kernel
theorem dX6_gainsAlong_0 : decode cX6_gainsAlong 0 = .ok (.iconst 0, 1) := by decide +kernel
theorem dX6_gainsAlong_1 : decode cX6_gainsAlong 1 = .ok (.istore_n 3, 1) := by decide +kernel
theorem dX6_gainsAlong_2 : decode cX6_gainsAlong 2 = .ok (.iload_n 1, 1) := by decide +kernel
theorem dX6_gainsAlong_3 : decode cX6_gainsAlong 3 = .ok (.istore 4, 2) := by decide +kernel
theorem dX6_gainsAlong_5 : decode cX6_gainsAlong 5 = .ok (.iload 4, 2) := by decide +kernel
theorem dX6_gainsAlong_7 : decode cX6_gainsAlong 7 = .ok (.iload_n 1, 1) := by decide +kernel
theorem dX6_gainsAlong_8 : decode cX6_gainsAlong 8 = .ok (.iload_n 2, 1) := by decide +kernel
theorem dX6_gainsAlong_9 : decode cX6_gainsAlong 9 = .ok (.iadd, 1) := by decide +kernel
theorem dX6_gainsAlong_10 : decode cX6_gainsAlong 10 = .ok (.if_icmp .ge 24, 3) := by decide +kernel
theorem dX6_gainsAlong_13 : decode cX6_gainsAlong 13 = .ok (.iload_n 3, 1) := by decide +kernel
theorem dX6_gainsAlong_14 : decode cX6_gainsAlong 14 = .ok (.aload_n 0, 1) := by decide +kernel
theorem dX6_gainsAlong_15 : decode cX6_gainsAlong 15 = .ok (.getfield 15, 3) := by decide +kernel
theorem dX6_gainsAlong_18 : decode cX6_gainsAlong 18 = .ok (.aload_n 0, 1) := by decide +kernel
theorem dX6_gainsAlong_19 : decode cX6_gainsAlong 19 = .ok (.getfield 21, 3) := by decide +kernel
theorem dX6_gainsAlong_22 : decode cX6_gainsAlong 22 = .ok (.iload 4, 2) := by decide +kernel
theorem dX6_gainsAlong_24 : decode cX6_gainsAlong 24 = .ok (.iaload, 1) := by decide +kernel
theorem dX6_gainsAlong_25 : decode cX6_gainsAlong 25 = .ok (.iaload, 1) := by decide +kernel
theorem dX6_gainsAlong_26 : decode cX6_gainsAlong 26 = .ok (.iadd, 1) := by decide +kernel
theorem dX6_gainsAlong_27 : decode cX6_gainsAlong 27 = .ok (.istore_n 3, 1) := by decide +kernel
theorem dX6_gainsAlong_28 : decode cX6_gainsAlong 28 = .ok (.iinc 4 1, 3) := by decide +kernel
theorem dX6_gainsAlong_31 : decode cX6_gainsAlong 31 = .ok (.goto (-26), 3) := by decide +kernel
theorem dX6_gainsAlong_34 : decode cX6_gainsAlong 34 = .ok (.iload_n 3, 1) := by decide +kernel
theorem dX6_gainsAlong_35 : decode cX6_gainsAlong 35 = .ok (.ireturn, 1) := by decide +kernel
set_option maxRecDepth 20000 in
theorem ggX6_worthInto_X0_rateOver : GoodIn wsX6_worthInto wsX0_rateOver := goodIn_r _ [7, 8, 44, 45, 46] (by decide +kernel) (by decide +kernel)
set_option maxRecDepth 20000 in
theorem gX6_worthInto_X0_rateOver : GoodIn wsX6_worthInto (wsV RX6 67 RX0 yX0_rateOver wsX0_rateOver) := goodIn_app (goodIn_of _ (by decide +kernel)) ggX6_worthInto_X0_rateOver
set_option maxRecDepth 20000 in
theorem ggX6_worthInto_X0_rateUnder : GoodIn wsX6_worthInto wsX0_rateUnder := goodIn_r _ [12, 13, 44, 45, 46] (by decide +kernel) (by decide +kernel)
set_option maxRecDepth 20000 in
theorem gX6_worthInto_X0_rateUnder : GoodIn wsX6_worthInto (wsV RX6 71 RX0 yX0_rateUnder wsX0_rateUnder) := goodIn_app (goodIn_of _ (by decide +kernel)) ggX6_worthInto_X0_rateUnder
set_option maxRecDepth 20000 in
theorem ggX6_worthInto_X6_power : GoodIn wsX6_worthInto wsX6_power := goodIn_r _ [17] (by decide +kernel) (by decide +kernel)
set_option maxRecDepth 20000 in
theorem gX6_worthInto_X6_power : GoodIn wsX6_worthInto (va_wsS RX6 74 yX6_power wsX6_power) := goodIn_app (goodIn_of _ (by decide +kernel)) ggX6_worthInto_X6_power
set_option maxRecDepth 20000 in
theorem ggX6_worthInto_X6_weighedAlong : GoodIn wsX6_worthInto wsX6_weighedAlong := goodIn_r _ [21, 22, 23, 38, 39, 40, 41, 42, 43] (by decide +kernel) (by decide +kernel)
set_option maxRecDepth 20000 in
theorem gX6_worthInto_X6_weighedAlong : GoodIn wsX6_worthInto (wsV RX6 78 RX6 yX6_weighedAlong wsX6_weighedAlong) := goodIn_app (goodIn_of _ (by decide +kernel)) ggX6_worthInto_X6_weighedAlong
set_option maxRecDepth 20000 in
theorem ggX6_worthInto_X4_become : GoodIn wsX6_worthInto wsX4_become := goodIn_r _ [28, 29, 30, 31, 32, 33, 34, 35, 36, 27, 37, 47, 48] (by decide +kernel) (by decide +kernel)
set_option maxRecDepth 20000 in
theorem gX6_worthInto_X4_become : GoodIn wsX6_worthInto (wsV RX6 82 RX4 yX4_become wsX4_become) := goodIn_app (goodIn_of _ (by decide +kernel)) ggX6_worthInto_X4_become
theorem dX6_worthInto_0 : decode cX6_worthInto 0 = .ok (.aload_n 1, 1) := by decide +kernel
theorem dX6_worthInto_1 : decode cX6_worthInto 1 = .ok (.invokevirtual 67, 3) := by decide +kernel
theorem dX6_worthInto_4 : decode cX6_worthInto 4 = .ok (.lstore_n 3, 1) := by decide +kernel
theorem dX6_worthInto_5 : decode cX6_worthInto 5 = .ok (.aload_n 1, 1) := by decide +kernel
theorem dX6_worthInto_6 : decode cX6_worthInto 6 = .ok (.invokevirtual 71, 3) := by decide +kernel
theorem dX6_worthInto_9 : decode cX6_worthInto 9 = .ok (.lstore 5, 2) := by decide +kernel
theorem dX6_worthInto_11 : decode cX6_worthInto 11 = .ok (.lload 5, 2) := by decide +kernel
theorem dX6_worthInto_13 : decode cX6_worthInto 13 = .ok (.aload_n 0, 1) := by decide +kernel
theorem dX6_worthInto_14 : decode cX6_worthInto 14 = .ok (.getfield 28, 3) := by decide +kernel
theorem dX6_worthInto_17 : decode cX6_worthInto 17 = .ok (.invokestatic 74, 3) := by decide +kernel
theorem dX6_worthInto_20 : decode cX6_worthInto 20 = .ok (.lload_n 3, 1) := by decide +kernel
theorem dX6_worthInto_21 : decode cX6_worthInto 21 = .ok (.aload_n 0, 1) := by decide +kernel
theorem dX6_worthInto_22 : decode cX6_worthInto 22 = .ok (.getfield 28, 3) := by decide +kernel
theorem dX6_worthInto_25 : decode cX6_worthInto 25 = .ok (.invokestatic 74, 3) := by decide +kernel
theorem dX6_worthInto_28 : decode cX6_worthInto 28 = .ok (.lsub, 1) := by decide +kernel
theorem dX6_worthInto_29 : decode cX6_worthInto 29 = .ok (.lstore 7, 2) := by decide +kernel
theorem dX6_worthInto_31 : decode cX6_worthInto 31 = .ok (.aload_n 0, 1) := by decide +kernel
theorem dX6_worthInto_32 : decode cX6_worthInto 32 = .ok (.iconst 0, 1) := by decide +kernel
theorem dX6_worthInto_33 : decode cX6_worthInto 33 = .ok (.aload_n 0, 1) := by decide +kernel
theorem dX6_worthInto_34 : decode cX6_worthInto 34 = .ok (.getfield 24, 3) := by decide +kernel
theorem dX6_worthInto_37 : decode cX6_worthInto 37 = .ok (.lload_n 3, 1) := by decide +kernel
theorem dX6_worthInto_38 : decode cX6_worthInto 38 = .ok (.lload 5, 2) := by decide +kernel
theorem dX6_worthInto_40 : decode cX6_worthInto 40 = .ok (.invokevirtual 78, 3) := by decide +kernel
theorem dX6_worthInto_43 : decode cX6_worthInto 43 = .ok (.lload 7, 2) := by decide +kernel
theorem dX6_worthInto_45 : decode cX6_worthInto 45 = .ok (.lmul, 1) := by decide +kernel
theorem dX6_worthInto_46 : decode cX6_worthInto 46 = .ok (.lload_n 3, 1) := by decide +kernel
theorem dX6_worthInto_47 : decode cX6_worthInto 47 = .ok (.aload_n 0, 1) := by decide +kernel
theorem dX6_worthInto_48 : decode cX6_worthInto 48 = .ok (.getfield 24, 3) := by decide +kernel
theorem dX6_worthInto_51 : decode cX6_worthInto 51 = .ok (.invokestatic 74, 3) := by decide +kernel
theorem dX6_worthInto_54 : decode cX6_worthInto 54 = .ok (.aload_n 0, 1) := by decide +kernel
theorem dX6_worthInto_55 : decode cX6_worthInto 55 = .ok (.aload_n 0, 1) := by decide +kernel
theorem dX6_worthInto_56 : decode cX6_worthInto 56 = .ok (.getfield 24, 3) := by decide +kernel
theorem dX6_worthInto_59 : decode cX6_worthInto 59 = .ok (.aload_n 0, 1) := by decide +kernel
theorem dX6_worthInto_60 : decode cX6_worthInto 60 = .ok (.getfield 28, 3) := by decide +kernel
theorem dX6_worthInto_63 : decode cX6_worthInto 63 = .ok (.lload_n 3, 1) := by decide +kernel
theorem dX6_worthInto_64 : decode cX6_worthInto 64 = .ok (.lload 5, 2) := by decide +kernel
theorem dX6_worthInto_66 : decode cX6_worthInto 66 = .ok (.invokevirtual 78, 3) := by decide +kernel
theorem dX6_worthInto_69 : decode cX6_worthInto 69 = .ok (.lmul, 1) := by decide +kernel
theorem dX6_worthInto_70 : decode cX6_worthInto 70 = .ok (.ladd, 1) := by decide +kernel
theorem dX6_worthInto_71 : decode cX6_worthInto 71 = .ok (.lstore 9, 2) := by decide +kernel
theorem dX6_worthInto_73 : decode cX6_worthInto 73 = .ok (.aload_n 2, 1) := by decide +kernel
theorem dX6_worthInto_74 : decode cX6_worthInto 74 = .ok (.lload 5, 2) := by decide +kernel
theorem dX6_worthInto_76 : decode cX6_worthInto 76 = .ok (.lload 9, 2) := by decide +kernel
theorem dX6_worthInto_78 : decode cX6_worthInto 78 = .ok (.lmul, 1) := by decide +kernel
theorem dX6_worthInto_79 : decode cX6_worthInto 79 = .ok (.lload 5, 2) := by decide +kernel
theorem dX6_worthInto_81 : decode cX6_worthInto 81 = .ok (.aload_n 0, 1) := by decide +kernel
theorem dX6_worthInto_82 : decode cX6_worthInto 82 = .ok (.getfield 24, 3) := by decide +kernel
theorem dX6_worthInto_85 : decode cX6_worthInto 85 = .ok (.invokestatic 74, 3) := by decide +kernel
theorem dX6_worthInto_88 : decode cX6_worthInto 88 = .ok (.lload 7, 2) := by decide +kernel
theorem dX6_worthInto_90 : decode cX6_worthInto 90 = .ok (.lmul, 1) := by decide +kernel
theorem dX6_worthInto_91 : decode cX6_worthInto 91 = .ok (.invokevirtual 82, 3) := by decide +kernel
theorem dX6_worthInto_94 : decode cX6_worthInto 94 = .ok (.return_, 1) := by decide +kernel
theorem dX6_weighedAlong_0 : decode cX6_weighedAlong 0 = .ok (.lconst 0, 1) := by decide +kernel
theorem dX6_weighedAlong_1 : decode cX6_weighedAlong 1 = .ok (.lstore 7, 2) := by decide +kernel
theorem dX6_weighedAlong_3 : decode cX6_weighedAlong 3 = .ok (.lconst 1, 1) := by decide +kernel
theorem dX6_weighedAlong_4 : decode cX6_weighedAlong 4 = .ok (.lstore 9, 2) := by decide +kernel
theorem dX6_weighedAlong_6 : decode cX6_weighedAlong 6 = .ok (.iload_n 1, 1) := by decide +kernel
theorem dX6_weighedAlong_7 : decode cX6_weighedAlong 7 = .ok (.istore 11, 2) := by decide +kernel
theorem dX6_weighedAlong_9 : decode cX6_weighedAlong 9 = .ok (.iload 11, 2) := by decide +kernel
theorem dX6_weighedAlong_11 : decode cX6_weighedAlong 11 = .ok (.iload_n 1, 1) := by decide +kernel
theorem dX6_weighedAlong_12 : decode cX6_weighedAlong 12 = .ok (.iload_n 2, 1) := by decide +kernel
theorem dX6_weighedAlong_13 : decode cX6_weighedAlong 13 = .ok (.iadd, 1) := by decide +kernel
theorem dX6_weighedAlong_14 : decode cX6_weighedAlong 14 = .ok (.if_icmp .ge 39, 3) := by decide +kernel
theorem dX6_weighedAlong_17 : decode cX6_weighedAlong 17 = .ok (.lload 7, 2) := by decide +kernel
theorem dX6_weighedAlong_19 : decode cX6_weighedAlong 19 = .ok (.lload 5, 2) := by decide +kernel
theorem dX6_weighedAlong_21 : decode cX6_weighedAlong 21 = .ok (.lmul, 1) := by decide +kernel
theorem dX6_weighedAlong_22 : decode cX6_weighedAlong 22 = .ok (.aload_n 0, 1) := by decide +kernel
theorem dX6_weighedAlong_23 : decode cX6_weighedAlong 23 = .ok (.getfield 15, 3) := by decide +kernel
theorem dX6_weighedAlong_26 : decode cX6_weighedAlong 26 = .ok (.aload_n 0, 1) := by decide +kernel
theorem dX6_weighedAlong_27 : decode cX6_weighedAlong 27 = .ok (.getfield 21, 3) := by decide +kernel
theorem dX6_weighedAlong_30 : decode cX6_weighedAlong 30 = .ok (.iload 11, 2) := by decide +kernel
theorem dX6_weighedAlong_32 : decode cX6_weighedAlong 32 = .ok (.iaload, 1) := by decide +kernel
theorem dX6_weighedAlong_33 : decode cX6_weighedAlong 33 = .ok (.iaload, 1) := by decide +kernel
theorem dX6_weighedAlong_34 : decode cX6_weighedAlong 34 = .ok (.i2l, 1) := by decide +kernel
theorem dX6_weighedAlong_35 : decode cX6_weighedAlong 35 = .ok (.lload 9, 2) := by decide +kernel
theorem dX6_weighedAlong_37 : decode cX6_weighedAlong 37 = .ok (.lmul, 1) := by decide +kernel
theorem dX6_weighedAlong_38 : decode cX6_weighedAlong 38 = .ok (.ladd, 1) := by decide +kernel
theorem dX6_weighedAlong_39 : decode cX6_weighedAlong 39 = .ok (.lstore 7, 2) := by decide +kernel
theorem dX6_weighedAlong_41 : decode cX6_weighedAlong 41 = .ok (.lload 9, 2) := by decide +kernel
theorem dX6_weighedAlong_43 : decode cX6_weighedAlong 43 = .ok (.lload_n 3, 1) := by decide +kernel
theorem dX6_weighedAlong_44 : decode cX6_weighedAlong 44 = .ok (.lmul, 1) := by decide +kernel
theorem dX6_weighedAlong_45 : decode cX6_weighedAlong 45 = .ok (.lstore 9, 2) := by decide +kernel
theorem dX6_weighedAlong_47 : decode cX6_weighedAlong 47 = .ok (.iinc 11 1, 3) := by decide +kernel
theorem dX6_weighedAlong_50 : decode cX6_weighedAlong 50 = .ok (.goto (-41), 3) := by decide +kernel
theorem dX6_weighedAlong_53 : decode cX6_weighedAlong 53 = .ok (.lload 7, 2) := by decide +kernel
theorem dX6_weighedAlong_55 : decode cX6_weighedAlong 55 = .ok (.lreturn, 1) := by decide +kernel
theorem dX6_power_0 : decode cX6_power 0 = .ok (.lconst 1, 1) := by decide +kernel
theorem dX6_power_1 : decode cX6_power 1 = .ok (.lstore_n 3, 1) := by decide +kernel
theorem dX6_power_2 : decode cX6_power 2 = .ok (.iconst 0, 1) := by decide +kernel
theorem dX6_power_3 : decode cX6_power 3 = .ok (.istore 5, 2) := by decide +kernel
theorem dX6_power_5 : decode cX6_power 5 = .ok (.iload 5, 2) := by decide +kernel
theorem dX6_power_7 : decode cX6_power 7 = .ok (.iload_n 2, 1) := by decide +kernel
theorem dX6_power_8 : decode cX6_power 8 = .ok (.if_icmp .ge 13, 3) := by decide +kernel
theorem dX6_power_11 : decode cX6_power 11 = .ok (.lload_n 3, 1) := by decide +kernel
theorem dX6_power_12 : decode cX6_power 12 = .ok (.lload_n 0, 1) := by decide +kernel
theorem dX6_power_13 : decode cX6_power 13 = .ok (.lmul, 1) := by decide +kernel
theorem dX6_power_14 : decode cX6_power 14 = .ok (.lstore_n 3, 1) := by decide +kernel
theorem dX6_power_15 : decode cX6_power 15 = .ok (.iinc 5 1, 3) := by decide +kernel
theorem dX6_power_18 : decode cX6_power 18 = .ok (.goto (-13), 3) := by decide +kernel
theorem dX6_power_21 : decode cX6_power 21 = .ok (.lload_n 3, 1) := by decide +kernel
theorem dX6_power_22 : decode cX6_power 22 = .ok (.lreturn, 1) := by decide +kernel
theorem dX6_meeting_0 : decode cX6_meeting 0 = .ok (.iload_n 1, 1) := by decide +kernel
theorem dX6_meeting_1 : decode cX6_meeting 1 = .ok (.istore_n 3, 1) := by decide +kernel
theorem dX6_meeting_2 : decode cX6_meeting 2 = .ok (.iload_n 2, 1) := by decide +kernel
theorem dX6_meeting_3 : decode cX6_meeting 3 = .ok (.istore 4, 2) := by decide +kernel
theorem dX6_meeting_5 : decode cX6_meeting 5 = .ok (.iconst 0, 1) := by decide +kernel
theorem dX6_meeting_6 : decode cX6_meeting 6 = .ok (.istore 5, 2) := by decide +kernel
theorem dX6_meeting_8 : decode cX6_meeting 8 = .ok (.iload 5, 2) := by decide +kernel
theorem dX6_meeting_10 : decode cX6_meeting 10 = .ok (.sipush 256, 3) := by decide +kernel
theorem dX6_meeting_13 : decode cX6_meeting 13 = .ok (.if_icmp .gt 34, 3) := by decide +kernel
theorem dX6_meeting_16 : decode cX6_meeting 16 = .ok (.iload_n 3, 1) := by decide +kernel
theorem dX6_meeting_17 : decode cX6_meeting 17 = .ok (.iload 4, 2) := by decide +kernel
theorem dX6_meeting_19 : decode cX6_meeting 19 = .ok (.if_icmp .ne 6, 3) := by decide +kernel
theorem dX6_meeting_22 : decode cX6_meeting 22 = .ok (.iload 5, 2) := by decide +kernel
theorem dX6_meeting_24 : decode cX6_meeting 24 = .ok (.ireturn, 1) := by decide +kernel
theorem dX6_meeting_25 : decode cX6_meeting 25 = .ok (.aload_n 0, 1) := by decide +kernel
theorem dX6_meeting_26 : decode cX6_meeting 26 = .ok (.getfield 11, 3) := by decide +kernel
theorem dX6_meeting_29 : decode cX6_meeting 29 = .ok (.iload_n 3, 1) := by decide +kernel
theorem dX6_meeting_30 : decode cX6_meeting 30 = .ok (.iaload, 1) := by decide +kernel
theorem dX6_meeting_31 : decode cX6_meeting 31 = .ok (.istore_n 3, 1) := by decide +kernel
theorem dX6_meeting_32 : decode cX6_meeting 32 = .ok (.aload_n 0, 1) := by decide +kernel
theorem dX6_meeting_33 : decode cX6_meeting 33 = .ok (.getfield 11, 3) := by decide +kernel
theorem dX6_meeting_36 : decode cX6_meeting 36 = .ok (.iload 4, 2) := by decide +kernel
theorem dX6_meeting_38 : decode cX6_meeting 38 = .ok (.iaload, 1) := by decide +kernel
theorem dX6_meeting_39 : decode cX6_meeting 39 = .ok (.istore 4, 2) := by decide +kernel
theorem dX6_meeting_41 : decode cX6_meeting 41 = .ok (.iinc 5 1, 3) := by decide +kernel
theorem dX6_meeting_44 : decode cX6_meeting 44 = .ok (.goto (-36), 3) := by decide +kernel
theorem dX6_meeting_47 : decode cX6_meeting 47 = .ok (.iconst (-1), 1) := by decide +kernel
theorem dX6_meeting_48 : decode cX6_meeting 48 = .ok (.ireturn, 1) := by decide +kernel
set_option maxRecDepth 20000 in
theorem ggX7_init_X0_init : GoodIn wsX7_init wsX0_init := goodIn_r _ [37, 38, 2, 3, 34, 39, 40, 41, 42, 90, 91, 92] (by decide +kernel) (by decide +kernel)
set_option maxRecDepth 20000 in
theorem gX7_init_X0_init_n9 : GoodIn wsX7_init (wsX0_init) := ggX7_init_X0_init
set_option maxRecDepth 20000 in
theorem ggX7_init_X2_init : GoodIn wsX7_init wsX2_init := goodIn_r _ [44, 45, 2, 3, 34, 46, 47, 48, 49, 103, 104, 105, 106] (by decide +kernel) (by decide +kernel)
set_option maxRecDepth 20000 in
theorem gX7_init_X2_init_n18 : GoodIn wsX7_init (wsX2_init) := ggX7_init_X2_init
set_option maxRecDepth 20000 in
theorem ggX7_init_X5_init : GoodIn wsX7_init wsX5_init := goodIn_r _ [52, 53, 2, 3, 34, 54, 55, 56, 57, 58, 59, 60, 107, 108, 109] (by decide +kernel) (by decide +kernel)
set_option maxRecDepth 20000 in
theorem gX7_init_X5_init : GoodIn wsX7_init (wsX5_init) := ggX7_init_X5_init
set_option maxRecDepth 20000 in
theorem ggX7_init_X1_init : GoodIn wsX7_init wsX1_init := goodIn_r _ [62, 63, 2, 3, 34, 64, 110] (by decide +kernel) (by decide +kernel)
set_option maxRecDepth 20000 in
theorem gX7_init_X1_init_n32 : GoodIn wsX7_init (wsX1_init) := ggX7_init_X1_init
set_option maxRecDepth 20000 in
theorem ggX7_init_X3_init : GoodIn wsX7_init wsX3_init := goodIn_r _ [66, 67, 2, 3, 34, 68, 69, 70, 71, 72, 25, 26, 73, 74, 30, 31, 75, 76, 77, 78, 79, 80, 81, 82, 83, 84, 85, 86, 87, 88, 89, 111, 112, 113, 114, 115, 116, 117, 118, 119, 120, 121, 122, 123] (by decide +kernel) (by decide +kernel)
set_option maxRecDepth 20000 in
theorem gX7_init_X3_init_n39 : GoodIn wsX7_init (wsX3_init) := ggX7_init_X3_init
set_option maxRecDepth 20000 in
theorem ggX7_init_X6_init : GoodIn wsX7_init wsX6_init := goodIn_r _ [77, 78, 2, 3, 34, 79, 80, 81, 82, 83, 84, 116, 117, 118, 119, 120, 121] (by decide +kernel) (by decide +kernel)
set_option maxRecDepth 20000 in
theorem gX7_init_X6_init_n46 : GoodIn wsX7_init (wsX6_init) := ggX7_init_X6_init
set_option maxRecDepth 20000 in
theorem ggX7_init_X4_init : GoodIn wsX7_init wsX4_init := goodIn_r _ [86, 87, 2, 3, 88, 89, 122, 123] (by decide +kernel) (by decide +kernel)
set_option maxRecDepth 20000 in
theorem gX7_init_X4_init_n56 : GoodIn wsX7_init (wsX4_init) := ggX7_init_X4_init
