/-! ===== BEGIN words of one list among another's, by their places ===== -/
theorem goodIn_r {big : List Cond} (ws : List Cond) (ps : List Nat) (hp : ws = ps.filterMap (fun i => big[i]?)) (h : ws.all goodWord = true) : GoodIn big ws := by
  intro w hw
  have h1 := List.all_eq_true.mp h w hw
  rw [hp] at hw
  obtain ⟨i, -, hi⟩ := List.mem_filterMap.mp hw
  have hm : w ∈ big := by first | exact List.mem_of_getElem? hi | exact List.getElem?_mem hi
  exact ⟨hm, good_of_word h1⟩
theorem goodIn_app {big a b : List Cond} (ha : GoodIn big a) (hb : GoodIn big b) : GoodIn big (a ++ b) := fun w h => (List.mem_append.mp h).elim (ha w) (hb w)
theorem goodIn_ca {big a b : List Cond} {c : Cond} (ha : GoodIn big (c :: a)) (hb : GoodIn big b) : GoodIn big (c :: (a ++ b)) := fun w h => (List.mem_cons.mp h).elim (fun e => ha w (List.mem_cons.mpr (Or.inl e))) (fun h => (List.mem_append.mp h).elim (fun h => ha w (List.mem_cons.mpr (Or.inr h))) (hb w))
theorem goodIn_sub {big ws : List Cond} (hm : ∀ w ∈ ws, w ∈ big) (h : ws.all goodWord = true) : GoodIn big ws := fun w hw => ⟨hm w hw, good_of_word (List.all_eq_true.mp h w hw)⟩
/-! ===== END ===== -/

/-! ===== BEGIN printed: names, fields, word lists, decode rows ===== -/
def RX0 : String := "ChipTimers$Catcher"
def TX0 : u_T := fun k => match k with
  | 0 => ("ChipTimers$Catcher", "counter", "I", false)
  | 1 => ("ChipTimers$Catcher", "edges", "I", false)
  | 2 => ("ChipTimers$Catcher", "every", "I", false)
  | 3 => ("ChipTimers$Catcher", "seen", "I", false)
  | 4 => ("ChipTimers$Catcher", "value", "I", false)
  | 5 => ("ChipTimers$Catcher", "ready", "I", false)
  | _ => ("ChipTimers$Catcher", "missed", "I", false)
def tyX0 : Nat → FieldType := fun k => match k with
  | 0 => .int
  | 1 => .int
  | 2 => .int
  | 3 => .int
  | 4 => .int
  | 5 => .int
  | _ => .int
abbrev wsX00 : List Cond := u_ws RX0 TX0 7
theorem nmX0 : ∀ a, a < 7 → ∀ b, b < 7 → a ≠ b → (TX0 a).2.1 ≠ (TX0 b).2.1 := by decide +kernel
theorem tyX0_ok : ∀ k, k < 7 → parseFieldDescriptor (TX0 k).2.2.1 = some (tyX0 k) := by decide +kernel
abbrev cX0_init : ByteArray := prog_2_method_1_code
def yX0_init : MethodName := ⟨RX0, "<init>", "()V"⟩
abbrev cX0_setUp : ByteArray := prog_2_method_2_code
def yX0_setUp : MethodName := ⟨RX0, "setUp", "(III)V"⟩
abbrev cX0_notice : ByteArray := prog_2_method_3_code
def yX0_notice : MethodName := ⟨RX0, "notice", "(II)V"⟩
abbrev cX0_handOver : ByteArray := prog_2_method_4_code
def yX0_handOver : MethodName := ⟨RX0, "handOver", "()I"⟩
abbrev cX0_tell : ByteArray := prog_2_method_5_code
def yX0_tell : MethodName := ⟨RX0, "tell", "(I)I"⟩
def RX1 : String := "ChipTimers$Channel"
def TX1 : u_T := fun k => match k with
  | 0 => ("ChipTimers$Channel", "counter", "I", false)
  | 1 => ("ChipTimers$Channel", "mode", "I", false)
  | 2 => ("ChipTimers$Channel", "mark", "I", false)
  | 3 => ("ChipTimers$Channel", "level", "I", false)
  | 4 => ("ChipTimers$Channel", "since", "I", false)
  | 5 => ("ChipTimers$Channel", "dead", "I", false)
  | 6 => ("ChipTimers$Channel", "polarity", "I", false)
  | _ => ("ChipTimers$Channel", "safe", "I", false)
def tyX1 : Nat → FieldType := fun k => match k with
  | 0 => .int
  | 1 => .int
  | 2 => .int
  | 3 => .int
  | 4 => .int
  | 5 => .int
  | 6 => .int
  | _ => .int
abbrev wsX10 : List Cond := u_ws RX1 TX1 8
theorem nmX1 : ∀ a, a < 8 → ∀ b, b < 8 → a ≠ b → (TX1 a).2.1 ≠ (TX1 b).2.1 := by decide +kernel
theorem tyX1_ok : ∀ k, k < 8 → parseFieldDescriptor (TX1 k).2.2.1 = some (tyX1 k) := by decide +kernel
abbrev cX1_init : ByteArray := prog_3_method_1_code
def yX1_init : MethodName := ⟨RX1, "<init>", "()V"⟩
abbrev cX1_setUp : ByteArray := prog_3_method_2_code
def yX1_setUp : MethodName := ⟨RX1, "setUp", "(III)V"⟩
abbrev cX1_shapeOutputs : ByteArray := prog_3_method_3_code
def yX1_shapeOutputs : MethodName := ⟨RX1, "shapeOutputs", "(III)V"⟩
abbrev cX1_follow : ByteArray := prog_3_method_4_code
def yX1_follow : MethodName := ⟨RX1, "follow", "(LChipTimers$Counter;)V"⟩
abbrev cX1_nextLevel : ByteArray := prog_3_method_5_code
def yX1_nextLevel : MethodName := ⟨RX1, "nextLevel", "(LChipTimers$Counter;)I"⟩
abbrev cX1_outputsOn : ByteArray := prog_3_method_6_code
def yX1_outputsOn : MethodName := ⟨RX1, "outputsOn", "(Z)I"⟩
abbrev cX1_pinLevel : ByteArray := prog_3_method_7_code
def yX1_pinLevel : MethodName := ⟨RX1, "pinLevel", "(IZ)I"⟩
abbrev cX1_tell : ByteArray := prog_3_method_8_code
def yX1_tell : MethodName := ⟨RX1, "tell", "(IZ)I"⟩
def RX2 : String := "ChipTimers$Counter"
def TX2 : u_T := fun k => match k with
  | 0 => ("ChipTimers$Counter", "mode", "I", false)
  | 1 => ("ChipTimers$Counter", "top", "I", false)
  | 2 => ("ChipTimers$Counter", "share", "I", false)
  | 3 => ("ChipTimers$Counter", "source", "I", false)
  | 4 => ("ChipTimers$Counter", "count", "I", false)
  | 5 => ("ChipTimers$Counter", "phase", "I", false)
  | 6 => ("ChipTimers$Counter", "way", "I", false)
  | 7 => ("ChipTimers$Counter", "overs", "I", false)
  | 8 => ("ChipTimers$Counter", "waitingTop", "I", false)
  | 9 => ("ChipTimers$Counter", "wentOver", "Z", false)
  | _ => ("ChipTimers$Counter", "stepped", "Z", false)
def tyX2 : Nat → FieldType := fun k => match k with
  | 0 => .int
  | 1 => .int
  | 2 => .int
  | 3 => .int
  | 4 => .int
  | 5 => .int
  | 6 => .int
  | 7 => .int
  | 8 => .int
  | 9 => .boolean
  | _ => .boolean
abbrev wsX20 : List Cond := u_ws RX2 TX2 11
theorem nmX2 : ∀ a, a < 11 → ∀ b, b < 11 → a ≠ b → (TX2 a).2.1 ≠ (TX2 b).2.1 := by decide +kernel
theorem tyX2_ok : ∀ k, k < 11 → parseFieldDescriptor (TX2 k).2.2.1 = some (tyX2 k) := by decide +kernel
abbrev cX2_init : ByteArray := prog_4_method_1_code
def yX2_init : MethodName := ⟨RX2, "<init>", "()V"⟩
abbrev cX2_setUp : ByteArray := prog_4_method_2_code
def yX2_setUp : MethodName := ⟨RX2, "setUp", "(III)V"⟩
abbrev cX2_pass : ByteArray := prog_4_method_3_code
def yX2_pass : MethodName := ⟨RX2, "pass", "(Z)V"⟩
abbrev cX2_step : ByteArray := prog_4_method_4_code
def yX2_step : MethodName := ⟨RX2, "step", "()V"⟩
abbrev cX2_stepUp : ByteArray := prog_4_method_5_code
def yX2_stepUp : MethodName := ⟨RX2, "stepUp", "()V"⟩
abbrev cX2_stepDown : ByteArray := prog_4_method_6_code
def yX2_stepDown : MethodName := ⟨RX2, "stepDown", "()V"⟩
abbrev cX2_stepBothWays : ByteArray := prog_4_method_7_code
def yX2_stepBothWays : MethodName := ⟨RX2, "stepBothWays", "()V"⟩
abbrev cX2_goOver : ByteArray := prog_4_method_8_code
def yX2_goOver : MethodName := ⟨RX2, "goOver", "()V"⟩
abbrev cX2_takeWaitingTop : ByteArray := prog_4_method_9_code
def yX2_takeWaitingTop : MethodName := ⟨RX2, "takeWaitingTop", "()V"⟩
abbrev cX2_tell : ByteArray := prog_4_method_10_code
def yX2_tell : MethodName := ⟨RX2, "tell", "(I)I"⟩
def RX3 : String := "ChipTimers$Input"
def TX3 : u_T := fun k => match k with
  | 0 => ("ChipTimers$Input", "raw", "I", false)
  | 1 => ("ChipTimers$Input", "steady", "I", false)
  | 2 => ("ChipTimers$Input", "run", "I", false)
  | 3 => ("ChipTimers$Input", "filter", "I", false)
  | _ => ("ChipTimers$Input", "edge", "I", false)
def tyX3 : Nat → FieldType := fun k => match k with
  | 0 => .int
  | 1 => .int
  | 2 => .int
  | 3 => .int
  | _ => .int
abbrev wsX30 : List Cond := u_ws RX3 TX3 5
theorem nmX3 : ∀ a, a < 5 → ∀ b, b < 5 → a ≠ b → (TX3 a).2.1 ≠ (TX3 b).2.1 := by decide +kernel
theorem tyX3_ok : ∀ k, k < 5 → parseFieldDescriptor (TX3 k).2.2.1 = some (tyX3 k) := by decide +kernel
abbrev cX3_init : ByteArray := prog_5_method_1_code
def yX3_init : MethodName := ⟨RX3, "<init>", "()V"⟩
abbrev cX3_look : ByteArray := prog_5_method_2_code
def yX3_look : MethodName := ⟨RX3, "look", "()V"⟩
abbrev cX3_tell : ByteArray := prog_5_method_3_code
def yX3_tell : MethodName := ⟨RX3, "tell", "(I)I"⟩
def RX4 : String := "ChipTimers$Pair"
def TX4 : u_T := fun k => match k with
  | 0 => ("ChipTimers$Pair", "holding", "I", false)
  | _ => ("ChipTimers$Pair", "held", "I", false)
def tyX4 : Nat → FieldType := fun k => match k with
  | 0 => .int
  | _ => .int
abbrev wsX40 : List Cond := u_ws RX4 TX4 2
theorem nmX4 : ∀ a, a < 2 → ∀ b, b < 2 → a ≠ b → (TX4 a).2.1 ≠ (TX4 b).2.1 := by decide +kernel
theorem tyX4_ok : ∀ k, k < 2 → parseFieldDescriptor (TX4 k).2.2.1 = some (tyX4 k) := by decide +kernel
abbrev cX4_init : ByteArray := prog_6_method_1_code
def yX4_init : MethodName := ⟨RX4, "<init>", "()V"⟩
abbrev cX4_takeHigh : ByteArray := prog_6_method_2_code
def yX4_takeHigh : MethodName := ⟨RX4, "takeHigh", "(I)I"⟩
def RX5 : String := "ChipTimers$Pins"
def TX5 : u_T := fun k => match k with
  | 0 => ("ChipTimers$Pins", "levels", "[I", true)
  | 1 => ("ChipTimers$Pins", "entryTicks", "[I", true)
  | 2 => ("ChipTimers$Pins", "entryPins", "[I", true)
  | 3 => ("ChipTimers$Pins", "entryLevels", "[I", true)
  | 4 => ("ChipTimers$Pins", "entries", "I", false)
  | _ => ("ChipTimers$Pins", "next", "I", false)
def tyX5 : Nat → FieldType := fun k => match k with
  | 0 => .array .int
  | 1 => .array .int
  | 2 => .array .int
  | 3 => .array .int
  | 4 => .int
  | _ => .int
abbrev wsX50 : List Cond := u_ws RX5 TX5 6
theorem nmX5 : ∀ a, a < 6 → ∀ b, b < 6 → a ≠ b → (TX5 a).2.1 ≠ (TX5 b).2.1 := by decide +kernel
theorem tyX5_ok : ∀ k, k < 6 → parseFieldDescriptor (TX5 k).2.2.1 = some (tyX5 k) := by decide +kernel
abbrev cX5_init : ByteArray := prog_7_method_1_code
def yX5_init : MethodName := ⟨RX5, "<init>", "()V"⟩
abbrev cX5_drive : ByteArray := prog_7_method_2_code
def yX5_drive : MethodName := ⟨RX5, "drive", "(III)V"⟩
abbrev cX5_tell : ByteArray := prog_7_method_3_code
def yX5_tell : MethodName := ⟨RX5, "tell", "(II)I"⟩
def RX6 : String := "ChipTimers$SlowClock"
def TX6 : u_T := fun k => match k with
  | 0 => ("ChipTimers$SlowClock", "period", "I", false)
  | 1 => ("ChipTimers$SlowClock", "counter", "I", false)
  | 2 => ("ChipTimers$SlowClock", "how", "I", false)
  | 3 => ("ChipTimers$SlowClock", "first", "I", false)
  | _ => ("ChipTimers$SlowClock", "second", "I", false)
def tyX6 : Nat → FieldType := fun k => match k with
  | 0 => .int
  | 1 => .int
  | 2 => .int
  | 3 => .int
  | _ => .int
abbrev wsX60 : List Cond := u_ws RX6 TX6 5
theorem nmX6 : ∀ a, a < 5 → ∀ b, b < 5 → a ≠ b → (TX6 a).2.1 ≠ (TX6 b).2.1 := by decide +kernel
theorem tyX6_ok : ∀ k, k < 5 → parseFieldDescriptor (TX6 k).2.2.1 = some (tyX6 k) := by decide +kernel
abbrev cX6_init : ByteArray := prog_8_method_1_code
def yX6_init : MethodName := ⟨RX6, "<init>", "()V"⟩
abbrev cX6_setUp : ByteArray := prog_8_method_2_code
def yX6_setUp : MethodName := ⟨RX6, "setUp", "(III)V"⟩
abbrev cX6_sample : ByteArray := prog_8_method_3_code
def yX6_sample : MethodName := ⟨RX6, "sample", "(II)V"⟩
abbrev cX6_twist : ByteArray := prog_8_method_4_code
def yX6_twist : MethodName := ⟨RX6, "twist", "(I)I"⟩
abbrev cX6_untwist : ByteArray := prog_8_method_5_code
def yX6_untwist : MethodName := ⟨RX6, "untwist", "(I)I"⟩
abbrev cX6_tell : ByteArray := prog_8_method_6_code
def yX6_tell : MethodName := ⟨RX6, "tell", "(I)I"⟩
def RX7 : String := "ChipTimers"
def TX7 : u_T := fun k => match k with
  | 0 => ("ChipTimers", "counters", "[LChipTimers$Counter;", true)
  | 1 => ("ChipTimers", "inputs", "[LChipTimers$Input;", true)
  | 2 => ("ChipTimers", "catchers", "[LChipTimers$Catcher;", true)
  | 3 => ("ChipTimers", "channels", "[LChipTimers$Channel;", true)
  | 4 => ("ChipTimers", "pairs", "[LChipTimers$Pair;", true)
  | 5 => ("ChipTimers", "pins", "LChipTimers$Pins;", true)
  | 6 => ("ChipTimers", "slowClock", "LChipTimers$SlowClock;", true)
  | 7 => ("ChipTimers", "tickCount", "I", false)
  | _ => ("ChipTimers", "braked", "Z", false)
def tyX7 : Nat → FieldType := fun k => match k with
  | 0 => .array (.object "ChipTimers$Counter")
  | 1 => .array (.object "ChipTimers$Input")
  | 2 => .array (.object "ChipTimers$Catcher")
  | 3 => .array (.object "ChipTimers$Channel")
  | 4 => .array (.object "ChipTimers$Pair")
  | 5 => .object "ChipTimers$Pins"
  | 6 => .object "ChipTimers$SlowClock"
  | 7 => .int
  | _ => .boolean
abbrev wsX70 : List Cond := u_ws RX7 TX7 9
theorem nmX7 : ∀ a, a < 9 → ∀ b, b < 9 → a ≠ b → (TX7 a).2.1 ≠ (TX7 b).2.1 := by decide +kernel
theorem tyX7_ok : ∀ k, k < 9 → parseFieldDescriptor (TX7 k).2.2.1 = some (tyX7 k) := by decide +kernel
abbrev cX7_init : ByteArray := prog_1_method_1_code
def yX7_init : MethodName := ⟨RX7, "<init>", "()V"⟩
abbrev cX7_counter : ByteArray := prog_1_method_2_code
def yX7_counter : MethodName := ⟨RX7, "counter", "(IIII)I"⟩
abbrev cX7_source : ByteArray := prog_1_method_3_code
def yX7_source : MethodName := ⟨RX7, "source", "(II)I"⟩
abbrev cX7_count : ByteArray := prog_1_method_4_code
def yX7_count : MethodName := ⟨RX7, "count", "(II)I"⟩
abbrev cX7_top : ByteArray := prog_1_method_5_code
def yX7_top : MethodName := ⟨RX7, "top", "(II)I"⟩
abbrev cX7_ofCounter : ByteArray := prog_1_method_6_code
def yX7_ofCounter : MethodName := ⟨RX7, "ofCounter", "(II)I"⟩
abbrev cX7_input : ByteArray := prog_1_method_7_code
def yX7_input : MethodName := ⟨RX7, "input", "(II)I"⟩
abbrev cX7_filter : ByteArray := prog_1_method_8_code
def yX7_filter : MethodName := ⟨RX7, "filter", "(II)I"⟩
abbrev cX7_ofInput : ByteArray := prog_1_method_9_code
def yX7_ofInput : MethodName := ⟨RX7, "ofInput", "(II)I"⟩
abbrev cX7_catcher : ByteArray := prog_1_method_10_code
def yX7_catcher : MethodName := ⟨RX7, "catcher", "(IIII)I"⟩
abbrev cX7_taken : ByteArray := prog_1_method_11_code
def yX7_taken : MethodName := ⟨RX7, "taken", "(I)I"⟩
abbrev cX7_ofCatcher : ByteArray := prog_1_method_12_code
def yX7_ofCatcher : MethodName := ⟨RX7, "ofCatcher", "(II)I"⟩
abbrev cX7_ticks : ByteArray := prog_1_method_13_code
def yX7_ticks : MethodName := ⟨RX7, "ticks", "(I)I"⟩
abbrev cX7_channel : ByteArray := prog_1_method_14_code
def yX7_channel : MethodName := ⟨RX7, "channel", "(IIII)I"⟩
abbrev cX7_outputs : ByteArray := prog_1_method_15_code
def yX7_outputs : MethodName := ⟨RX7, "outputs", "(IIII)I"⟩
abbrev cX7_ofChannel : ByteArray := prog_1_method_16_code
def yX7_ofChannel : MethodName := ⟨RX7, "ofChannel", "(II)I"⟩
abbrev cX7_pin : ByteArray := prog_1_method_17_code
def yX7_pin : MethodName := ⟨RX7, "pin", "(I)I"⟩
abbrev cX7_brake : ByteArray := prog_1_method_18_code
def yX7_brake : MethodName := ⟨RX7, "brake", "()I"⟩
abbrev cX7_arm : ByteArray := prog_1_method_19_code
def yX7_arm : MethodName := ⟨RX7, "arm", "()I"⟩
abbrev cX7_record : ByteArray := prog_1_method_20_code
def yX7_record : MethodName := ⟨RX7, "record", "(II)I"⟩
abbrev cX7_holds : ByteArray := prog_1_method_21_code
def yX7_holds : MethodName := ⟨RX7, "holds", "(II)I"⟩
abbrev cX7_read : ByteArray := prog_1_method_22_code
def yX7_read : MethodName := ⟨RX7, "read", "(II)I"⟩
abbrev cX7_wide : ByteArray := prog_1_method_23_code
def yX7_wide : MethodName := ⟨RX7, "wide", "(I)I"⟩
abbrev cX7_slow : ByteArray := prog_1_method_24_code
def yX7_slow : MethodName := ⟨RX7, "slow", "(III)I"⟩
abbrev cX7_crossed : ByteArray := prog_1_method_25_code
def yX7_crossed : MethodName := ⟨RX7, "crossed", "(I)I"⟩
abbrev cX7_many : ByteArray := prog_1_method_26_code
def yX7_many : MethodName := ⟨RX7, "many", "(I)I"⟩
abbrev cX7_runTick : ByteArray := prog_1_method_27_code
def yX7_runTick : MethodName := ⟨RX7, "runTick", "()V"⟩
abbrev cX7_hasPulse : ByteArray := prog_1_method_28_code
def yX7_hasPulse : MethodName := ⟨RX7, "hasPulse", "(I)Z"⟩
abbrev cX7_workOutPins : ByteArray := prog_1_method_29_code
def yX7_workOutPins : MethodName := ⟨RX7, "workOutPins", "()V"⟩
abbrev cX7_isWhole : ByteArray := prog_1_method_30_code
def yX7_isWhole : MethodName := ⟨RX7, "isWhole", "(I)Z"⟩
abbrev cX7_outputsOn : ByteArray := prog_1_method_31_code
def yX7_outputsOn : MethodName := ⟨RX7, "outputsOn", "()I"⟩
abbrev cX7_catchersReady : ByteArray := prog_1_method_32_code
def yX7_catchersReady : MethodName := ⟨RX7, "catchersReady", "()I"⟩
abbrev cX7_oversOfAll : ByteArray := prog_1_method_33_code
def yX7_oversOfAll : MethodName := ⟨RX7, "oversOfAll", "()I"⟩
abbrev cX7_isOneOf : ByteArray := prog_1_method_34_code
def yX7_isOneOf : MethodName := ⟨RX7, "isOneOf", "(II)Z"⟩
abbrev cX7_within : ByteArray := prog_1_method_35_code
def yX7_within : MethodName := ⟨RX7, "within", "(III)Z"⟩
abbrev cX7_isSetOfOutputs : ByteArray := prog_1_method_36_code
def yX7_isSetOfOutputs : MethodName := ⟨RX7, "isSetOfOutputs", "(I)Z"⟩
def RX8 : String := "ChipTimersModel"
def TX8 : u_T := fun k => match k with
  | 0 => ("ChipTimersModel", "tick", "I", false)
  | 1 => ("ChipTimersModel", "modeOf", "[I", true)
  | 2 => ("ChipTimersModel", "topOf", "[I", true)
  | 3 => ("ChipTimersModel", "shareOf", "[I", true)
  | 4 => ("ChipTimersModel", "sourceOf", "[I", true)
  | 5 => ("ChipTimersModel", "countOf", "[I", true)
  | 6 => ("ChipTimersModel", "phaseOf", "[I", true)
  | 7 => ("ChipTimersModel", "wayOf", "[I", true)
  | 8 => ("ChipTimersModel", "oversOf", "[I", true)
  | 9 => ("ChipTimersModel", "waitsOf", "[I", true)
  | 10 => ("ChipTimersModel", "hasStepped", "[Z", true)
  | 11 => ("ChipTimersModel", "wentOver", "[Z", true)
  | 12 => ("ChipTimersModel", "rawOf", "[I", true)
  | 13 => ("ChipTimersModel", "steadyOf", "[I", true)
  | 14 => ("ChipTimersModel", "filterOf", "[I", true)
  | 15 => ("ChipTimersModel", "runOf", "[I", true)
  | 16 => ("ChipTimersModel", "edgeOf", "[I", true)
  | 17 => ("ChipTimersModel", "catches", "[I", true)
  | 18 => ("ChipTimersModel", "edgesOf", "[I", true)
  | 19 => ("ChipTimersModel", "everyOf", "[I", true)
  | 20 => ("ChipTimersModel", "seenOf", "[I", true)
  | 21 => ("ChipTimersModel", "valueOf", "[I", true)
  | 22 => ("ChipTimersModel", "readyOf", "[I", true)
  | 23 => ("ChipTimersModel", "missedOf", "[I", true)
  | 24 => ("ChipTimersModel", "comparesTo", "[I", true)
  | 25 => ("ChipTimersModel", "kindOf", "[I", true)
  | 26 => ("ChipTimersModel", "markOf", "[I", true)
  | 27 => ("ChipTimersModel", "levelOf", "[I", true)
  | 28 => ("ChipTimersModel", "sinceOf", "[I", true)
  | 29 => ("ChipTimersModel", "deadOf", "[I", true)
  | 30 => ("ChipTimersModel", "polarityOf", "[I", true)
  | 31 => ("ChipTimersModel", "safeOf", "[I", true)
  | 32 => ("ChipTimersModel", "isBraked", "Z", false)
  | 33 => ("ChipTimersModel", "pinLevel", "[I", true)
  | 34 => ("ChipTimersModel", "entries", "I", false)
  | 35 => ("ChipTimersModel", "entryTick", "[I", true)
  | 36 => ("ChipTimersModel", "entryPin", "[I", true)
  | 37 => ("ChipTimersModel", "entryLevel", "[I", true)
  | 38 => ("ChipTimersModel", "isHolding", "[Z", true)
  | 39 => ("ChipTimersModel", "heldBy", "[I", true)
  | 40 => ("ChipTimersModel", "period", "I", false)
  | 41 => ("ChipTimersModel", "crossed", "I", false)
  | 42 => ("ChipTimersModel", "how", "I", false)
  | 43 => ("ChipTimersModel", "first", "I", false)
  | _ => ("ChipTimersModel", "second", "I", false)
def tyX8 : Nat → FieldType := fun k => match k with
  | 0 => .int
  | 1 => .array .int
  | 2 => .array .int
  | 3 => .array .int
  | 4 => .array .int
  | 5 => .array .int
  | 6 => .array .int
  | 7 => .array .int
  | 8 => .array .int
  | 9 => .array .int
  | 10 => .array .boolean
  | 11 => .array .boolean
  | 12 => .array .int
  | 13 => .array .int
  | 14 => .array .int
  | 15 => .array .int
  | 16 => .array .int
  | 17 => .array .int
  | 18 => .array .int
  | 19 => .array .int
  | 20 => .array .int
  | 21 => .array .int
  | 22 => .array .int
  | 23 => .array .int
  | 24 => .array .int
  | 25 => .array .int
  | 26 => .array .int
  | 27 => .array .int
  | 28 => .array .int
  | 29 => .array .int
  | 30 => .array .int
  | 31 => .array .int
  | 32 => .boolean
  | 33 => .array .int
  | 34 => .int
  | 35 => .array .int
  | 36 => .array .int
  | 37 => .array .int
  | 38 => .array .boolean
  | 39 => .array .int
  | 40 => .int
  | 41 => .int
  | 42 => .int
  | 43 => .int
  | _ => .int
abbrev wsX80 : List Cond := u_ws RX8 TX8 45
theorem nmX8 : ∀ a, a < 45 → ∀ b, b < 45 → a ≠ b → (TX8 a).2.1 ≠ (TX8 b).2.1 := by decide +kernel
theorem tyX8_ok : ∀ k, k < 45 → parseFieldDescriptor (TX8 k).2.2.1 = some (tyX8 k) := by decide +kernel
abbrev cX8_init : ByteArray := prog_10_method_1_code
def yX8_init : MethodName := ⟨RX8, "<init>", "()V"⟩
abbrev cX8_within : ByteArray := prog_10_method_2_code
def yX8_within : MethodName := ⟨RX8, "within", "(III)Z"⟩
abbrev cX8_isOne : ByteArray := prog_10_method_3_code
def yX8_isOne : MethodName := ⟨RX8, "isOne", "(I)Z"⟩
abbrev cX8_counter : ByteArray := prog_10_method_4_code
def yX8_counter : MethodName := ⟨RX8, "counter", "(IIII)I"⟩
abbrev cX8_source : ByteArray := prog_10_method_5_code
def yX8_source : MethodName := ⟨RX8, "source", "(II)I"⟩
abbrev cX8_count : ByteArray := prog_10_method_6_code
def yX8_count : MethodName := ⟨RX8, "count", "(II)I"⟩
abbrev cX8_top : ByteArray := prog_10_method_7_code
def yX8_top : MethodName := ⟨RX8, "top", "(II)I"⟩
abbrev cX8_ofCounter : ByteArray := prog_10_method_8_code
def yX8_ofCounter : MethodName := ⟨RX8, "ofCounter", "(II)I"⟩
abbrev cX8_hasPulse : ByteArray := prog_10_method_9_code
def yX8_hasPulse : MethodName := ⟨RX8, "hasPulse", "(I)Z"⟩
abbrev cX8_goesOver : ByteArray := prog_10_method_10_code
def yX8_goesOver : MethodName := ⟨RX8, "goesOver", "(I)V"⟩
abbrev cX8_takesTop : ByteArray := prog_10_method_11_code
def yX8_takesTop : MethodName := ⟨RX8, "takesTop", "(I)V"⟩
abbrev cX8_stepsUp : ByteArray := prog_10_method_12_code
def yX8_stepsUp : MethodName := ⟨RX8, "stepsUp", "(I)V"⟩
abbrev cX8_stepsDown : ByteArray := prog_10_method_13_code
def yX8_stepsDown : MethodName := ⟨RX8, "stepsDown", "(I)V"⟩
abbrev cX8_stepsBoth : ByteArray := prog_10_method_14_code
def yX8_stepsBoth : MethodName := ⟨RX8, "stepsBoth", "(I)V"⟩
abbrev cX8_steps : ByteArray := prog_10_method_15_code
def yX8_steps : MethodName := ⟨RX8, "steps", "(I)V"⟩
abbrev cX8_counters : ByteArray := prog_10_method_16_code
def yX8_counters : MethodName := ⟨RX8, "counters", "()V"⟩
abbrev cX8_input : ByteArray := prog_10_method_17_code
def yX8_input : MethodName := ⟨RX8, "input", "(II)I"⟩
abbrev cX8_filter : ByteArray := prog_10_method_18_code
def yX8_filter : MethodName := ⟨RX8, "filter", "(II)I"⟩
abbrev cX8_ofInput : ByteArray := prog_10_method_19_code
def yX8_ofInput : MethodName := ⟨RX8, "ofInput", "(II)I"⟩
abbrev cX8_inputs : ByteArray := prog_10_method_20_code
def yX8_inputs : MethodName := ⟨RX8, "inputs", "()V"⟩
abbrev cX8_catcher : ByteArray := prog_10_method_21_code
def yX8_catcher : MethodName := ⟨RX8, "catcher", "(IIII)I"⟩
abbrev cX8_taken : ByteArray := prog_10_method_22_code
def yX8_taken : MethodName := ⟨RX8, "taken", "(I)I"⟩
abbrev cX8_ofCatcher : ByteArray := prog_10_method_23_code
def yX8_ofCatcher : MethodName := ⟨RX8, "ofCatcher", "(II)I"⟩
abbrev cX8_catchers : ByteArray := prog_10_method_24_code
def yX8_catchers : MethodName := ⟨RX8, "catchers", "()V"⟩
abbrev cX8_oneTick : ByteArray := prog_10_method_25_code
def yX8_oneTick : MethodName := ⟨RX8, "oneTick", "()V"⟩
abbrev cX8_ticks : ByteArray := prog_10_method_26_code
def yX8_ticks : MethodName := ⟨RX8, "ticks", "(I)I"⟩
abbrev cX8_channel : ByteArray := prog_10_method_27_code
def yX8_channel : MethodName := ⟨RX8, "channel", "(IIII)I"⟩
abbrev cX8_outputs : ByteArray := prog_10_method_28_code
def yX8_outputs : MethodName := ⟨RX8, "outputs", "(IIII)I"⟩
abbrev cX8_levelThen : ByteArray := prog_10_method_29_code
def yX8_levelThen : MethodName := ⟨RX8, "levelThen", "(I)I"⟩
abbrev cX8_channels : ByteArray := prog_10_method_30_code
def yX8_channels : MethodName := ⟨RX8, "channels", "()V"⟩
abbrev cX8_isOn : ByteArray := prog_10_method_31_code
def yX8_isOn : MethodName := ⟨RX8, "isOn", "(II)Z"⟩
abbrev cX8_pinThen : ByteArray := prog_10_method_32_code
def yX8_pinThen : MethodName := ⟨RX8, "pinThen", "(II)I"⟩
abbrev cX8_enters : ByteArray := prog_10_method_33_code
def yX8_enters : MethodName := ⟨RX8, "enters", "(I)V"⟩
abbrev cX8_pins : ByteArray := prog_10_method_34_code
def yX8_pins : MethodName := ⟨RX8, "pins", "()V"⟩
abbrev cX8_onOf : ByteArray := prog_10_method_35_code
def yX8_onOf : MethodName := ⟨RX8, "onOf", "(I)I"⟩
abbrev cX8_ofChannel : ByteArray := prog_10_method_36_code
def yX8_ofChannel : MethodName := ⟨RX8, "ofChannel", "(II)I"⟩
abbrev cX8_pin : ByteArray := prog_10_method_37_code
def yX8_pin : MethodName := ⟨RX8, "pin", "(I)I"⟩
abbrev cX8_brakes : ByteArray := prog_10_method_38_code
def yX8_brakes : MethodName := ⟨RX8, "brakes", "(Z)I"⟩
abbrev cX8_brake : ByteArray := prog_10_method_39_code
def yX8_brake : MethodName := ⟨RX8, "brake", "()I"⟩
abbrev cX8_arm : ByteArray := prog_10_method_40_code
def yX8_arm : MethodName := ⟨RX8, "arm", "()I"⟩
abbrev cX8_record : ByteArray := prog_10_method_41_code
def yX8_record : MethodName := ⟨RX8, "record", "(II)I"⟩
abbrev cX8_isPair : ByteArray := prog_10_method_42_code
def yX8_isPair : MethodName := ⟨RX8, "isPair", "(I)Z"⟩
abbrev cX8_isWhole : ByteArray := prog_10_method_43_code
def yX8_isWhole : MethodName := ⟨RX8, "isWhole", "(I)Z"⟩
abbrev cX8_holds : ByteArray := prog_10_method_44_code
def yX8_holds : MethodName := ⟨RX8, "holds", "(II)I"⟩
abbrev cX8_read : ByteArray := prog_10_method_45_code
def yX8_read : MethodName := ⟨RX8, "read", "(II)I"⟩
abbrev cX8_wide : ByteArray := prog_10_method_46_code
def yX8_wide : MethodName := ⟨RX8, "wide", "(I)I"⟩
abbrev cX8_twisted : ByteArray := prog_10_method_47_code
def yX8_twisted : MethodName := ⟨RX8, "twisted", "(I)I"⟩
abbrev cX8_untwisted : ByteArray := prog_10_method_48_code
def yX8_untwisted : MethodName := ⟨RX8, "untwisted", "(I)I"⟩
abbrev cX8_sampleOf : ByteArray := prog_10_method_49_code
def yX8_sampleOf : MethodName := ⟨RX8, "sampleOf", "(II)I"⟩
abbrev cX8_slow : ByteArray := prog_10_method_50_code
def yX8_slow : MethodName := ⟨RX8, "slow", "(III)I"⟩
abbrev cX8_crossed : ByteArray := prog_10_method_51_code
def yX8_crossed : MethodName := ⟨RX8, "crossed", "(I)I"⟩
abbrev cX8_many : ByteArray := prog_10_method_52_code
def yX8_many : MethodName := ⟨RX8, "many", "(I)I"⟩
def RJ6 : String := "java/lang/Integer"
def TJ6 : u_T := fun k => match k with
  | _ => ("", "", "", false)
def tyJ6 : Nat → FieldType := fun k => match k with
  | _ => .int
abbrev wsJ60 : List Cond := u_ws RJ6 TJ6 0
theorem nmJ6 : ∀ a, a < 0 → ∀ b, b < 0 → a ≠ b → (TJ6 a).2.1 ≠ (TJ6 b).2.1 := by decide +kernel
theorem tyJ6_ok : ∀ k, k < 0 → parseFieldDescriptor (TJ6 k).2.2.1 = some (tyJ6 k) := by decide +kernel
abbrev cJ6_bitCount_0f7a4 : ByteArray := prog_11_method_49_code
def yJ6_bitCount_0f7a4 : MethodName := ⟨RJ6, "bitCount", "(I)I"⟩
def RJ9 : String := "java/lang/Math"
def TJ9 : u_T := fun k => match k with
  | _ => ("", "", "", false)
def tyJ9 : Nat → FieldType := fun k => match k with
  | _ => .int
abbrev wsJ90 : List Cond := u_ws RJ9 TJ9 0
theorem nmJ9 : ∀ a, a < 0 → ∀ b, b < 0 → a ≠ b → (TJ9 a).2.1 ≠ (TJ9 b).2.1 := by decide +kernel
theorem tyJ9_ok : ∀ k, k < 0 → parseFieldDescriptor (TJ9 k).2.2.1 = some (tyJ9 k) := by decide +kernel
abbrev cJ9_min_7cf53 : ByteArray := prog_12_method_69_code
def yJ9_min_7cf53 : MethodName := ⟨RJ9, "min", "(II)I"⟩
def RL : String := "ChipTimersLaw"
abbrev cL_law : ByteArray := code
def yL_law : MethodName := ⟨RL, "law", "([I)Z"⟩
def wsX0_init : List Cond := .code yX0_init cX0_init 1 none :: ([.methodLink RX0 3 objectInit, .instanceMethod objectInit, .code objectInit ⟨#[0xb1]⟩ 1 none, .fieldLink RX0 9 "ChipTimers$Catcher" "every" "I"] ++ wsX00)
def wsX0_setUp : List Cond := .code yX0_setUp cX0_setUp 4 none :: ([.fieldLink RX0 15 "ChipTimers$Catcher" "counter" "I", .fieldLink RX0 18 "ChipTimers$Catcher" "edges" "I", .fieldLink RX0 9 "ChipTimers$Catcher" "every" "I", .fieldLink RX0 21 "ChipTimers$Catcher" "seen" "I", .fieldLink RX0 24 "ChipTimers$Catcher" "value" "I", .fieldLink RX0 27 "ChipTimers$Catcher" "ready" "I", .fieldLink RX0 30 "ChipTimers$Catcher" "missed" "I"] ++ wsX00)
def wsX0_notice : List Cond := .code yX0_notice cX0_notice 3 none :: ([.fieldLink RX0 18 "ChipTimers$Catcher" "edges" "I", .fieldLink RX0 21 "ChipTimers$Catcher" "seen" "I", .fieldLink RX0 9 "ChipTimers$Catcher" "every" "I", .fieldLink RX0 30 "ChipTimers$Catcher" "missed" "I", .fieldLink RX0 27 "ChipTimers$Catcher" "ready" "I", .fieldLink RX0 24 "ChipTimers$Catcher" "value" "I"] ++ wsX00)
def wsX0_handOver : List Cond := .code yX0_handOver cX0_handOver 2 (some .int) :: ([.fieldLink RX0 27 "ChipTimers$Catcher" "ready" "I", .fieldLink RX0 24 "ChipTimers$Catcher" "value" "I"] ++ wsX00)
def wsX0_tell : List Cond := .code yX0_tell cX0_tell 2 (some .int) :: ([.fieldLink RX0 15 "ChipTimers$Catcher" "counter" "I", .fieldLink RX0 18 "ChipTimers$Catcher" "edges" "I", .fieldLink RX0 9 "ChipTimers$Catcher" "every" "I", .fieldLink RX0 21 "ChipTimers$Catcher" "seen" "I", .fieldLink RX0 24 "ChipTimers$Catcher" "value" "I", .fieldLink RX0 27 "ChipTimers$Catcher" "ready" "I", .fieldLink RX0 30 "ChipTimers$Catcher" "missed" "I"] ++ wsX00)
def wsX1_init : List Cond := .code yX1_init cX1_init 1 none :: ([.methodLink RX1 3 objectInit, .instanceMethod objectInit, .code objectInit ⟨#[0xb1]⟩ 1 none, .fieldLink RX1 9 "ChipTimers$Channel" "mode" "I"] ++ wsX10)
def wsX1_setUp : List Cond := .code yX1_setUp cX1_setUp 4 none :: ([.fieldLink RX1 15 "ChipTimers$Channel" "counter" "I", .fieldLink RX1 9 "ChipTimers$Channel" "mode" "I", .fieldLink RX1 18 "ChipTimers$Channel" "mark" "I", .fieldLink RX1 21 "ChipTimers$Channel" "level" "I", .fieldLink RX1 24 "ChipTimers$Channel" "since" "I"] ++ wsX10)
def wsX1_shapeOutputs : List Cond := .code yX1_shapeOutputs cX1_shapeOutputs 4 none :: ([.fieldLink RX1 27 "ChipTimers$Channel" "dead" "I", .fieldLink RX1 30 "ChipTimers$Channel" "polarity" "I", .fieldLink RX1 33 "ChipTimers$Channel" "safe" "I"] ++ wsX10)
def wsX1_nextLevel : List Cond := .code yX1_nextLevel cX1_nextLevel 3 (some .int) :: ([.fieldLink RX1 46 "ChipTimers$Counter" "stepped" "Z", .fieldLink RX1 52 "ChipTimers$Counter" "count" "I", .fieldLink RX1 18 "ChipTimers$Channel" "mark" "I", .fieldLink RX1 9 "ChipTimers$Channel" "mode" "I", .fieldLink RX1 21 "ChipTimers$Channel" "level" "I"] ++ wsX20 ++ wsX10)
def wsX1_follow : List Cond := .code yX1_follow cX1_follow 3 none :: ([.fieldLink RX1 21 "ChipTimers$Channel" "level" "I", .fieldLink RX1 24 "ChipTimers$Channel" "since" "I", .methodLink RX1 40 Lib.Math.min.name, .static Lib.Math.min.name, .initialized "java/lang/Math", .code Lib.Math.min.name Lib.Math.min.code 2 (some .int), .methodLink RX1 36 yX1_nextLevel, .instanceMethod yX1_nextLevel, .selects RX1 yX1_nextLevel yX1_nextLevel, .initialized RX1, .code yX1_nextLevel cX1_nextLevel 3 (some .int), .fieldLink RX1 46 "ChipTimers$Counter" "stepped" "Z", .fieldLink RX1 52 "ChipTimers$Counter" "count" "I", .fieldLink RX1 18 "ChipTimers$Channel" "mark" "I", .fieldLink RX1 9 "ChipTimers$Channel" "mode" "I"] ++ wsX10 ++ wsX20)
def wsX1_outputsOn : List Cond := .code yX1_outputsOn cX1_outputsOn 2 (some .int) :: ([.fieldLink RX1 9 "ChipTimers$Channel" "mode" "I", .fieldLink RX1 24 "ChipTimers$Channel" "since" "I", .fieldLink RX1 27 "ChipTimers$Channel" "dead" "I", .fieldLink RX1 21 "ChipTimers$Channel" "level" "I"] ++ wsX10)
def wsX1_pinLevel : List Cond := .code yX1_pinLevel cX1_pinLevel 4 (some .int) :: ([.fieldLink RX1 33 "ChipTimers$Channel" "safe" "I", .fieldLink RX1 30 "ChipTimers$Channel" "polarity" "I", .methodLink RX1 55 yX1_outputsOn, .instanceMethod yX1_outputsOn, .selects RX1 yX1_outputsOn yX1_outputsOn, .initialized RX1, .code yX1_outputsOn cX1_outputsOn 2 (some .int), .fieldLink RX1 9 "ChipTimers$Channel" "mode" "I", .fieldLink RX1 24 "ChipTimers$Channel" "since" "I", .fieldLink RX1 27 "ChipTimers$Channel" "dead" "I", .fieldLink RX1 21 "ChipTimers$Channel" "level" "I"] ++ wsX10)
def wsX1_tell : List Cond := .code yX1_tell cX1_tell 3 (some .int) :: ([.fieldLink RX1 15 "ChipTimers$Channel" "counter" "I", .fieldLink RX1 9 "ChipTimers$Channel" "mode" "I", .fieldLink RX1 18 "ChipTimers$Channel" "mark" "I", .fieldLink RX1 21 "ChipTimers$Channel" "level" "I", .fieldLink RX1 24 "ChipTimers$Channel" "since" "I", .fieldLink RX1 27 "ChipTimers$Channel" "dead" "I", .fieldLink RX1 30 "ChipTimers$Channel" "polarity" "I", .fieldLink RX1 33 "ChipTimers$Channel" "safe" "I", .methodLink RX1 55 yX1_outputsOn, .instanceMethod yX1_outputsOn, .selects RX1 yX1_outputsOn yX1_outputsOn, .initialized RX1, .code yX1_outputsOn cX1_outputsOn 2 (some .int)] ++ wsX10)
def wsX2_init : List Cond := .code yX2_init cX2_init 1 none :: ([.methodLink RX2 3 objectInit, .instanceMethod objectInit, .code objectInit ⟨#[0xb1]⟩ 1 none, .fieldLink RX2 9 "ChipTimers$Counter" "mode" "I", .fieldLink RX2 15 "ChipTimers$Counter" "top" "I", .fieldLink RX2 18 "ChipTimers$Counter" "share" "I", .fieldLink RX2 21 "ChipTimers$Counter" "source" "I", .fieldLink RX2 24 "ChipTimers$Counter" "way" "I", .fieldLink RX2 27 "ChipTimers$Counter" "waitingTop" "I"] ++ wsX20)
def wsX2_setUp : List Cond := .code yX2_setUp cX2_setUp 4 none :: ([.fieldLink RX2 9 "ChipTimers$Counter" "mode" "I", .fieldLink RX2 15 "ChipTimers$Counter" "top" "I", .fieldLink RX2 18 "ChipTimers$Counter" "share" "I", .fieldLink RX2 30 "ChipTimers$Counter" "count" "I", .fieldLink RX2 33 "ChipTimers$Counter" "phase" "I", .fieldLink RX2 24 "ChipTimers$Counter" "way" "I", .fieldLink RX2 36 "ChipTimers$Counter" "overs" "I", .fieldLink RX2 27 "ChipTimers$Counter" "waitingTop" "I"] ++ wsX20)
def wsX2_goOver : List Cond := .code yX2_goOver cX2_goOver 1 none :: ([.fieldLink RX2 39 "ChipTimers$Counter" "wentOver" "Z", .fieldLink RX2 36 "ChipTimers$Counter" "overs" "I"] ++ wsX20)
def wsX2_takeWaitingTop : List Cond := .code yX2_takeWaitingTop cX2_takeWaitingTop 1 none :: ([.fieldLink RX2 27 "ChipTimers$Counter" "waitingTop" "I", .fieldLink RX2 15 "ChipTimers$Counter" "top" "I"] ++ wsX20)
def wsX2_stepUp : List Cond := .code yX2_stepUp cX2_stepUp 1 none :: ([.fieldLink RX2 30 "ChipTimers$Counter" "count" "I", .fieldLink RX2 15 "ChipTimers$Counter" "top" "I", .methodLink RX2 58 yX2_goOver, .instanceMethod yX2_goOver, .selects RX2 yX2_goOver yX2_goOver, .initialized RX2, .code yX2_goOver cX2_goOver 1 none, .fieldLink RX2 39 "ChipTimers$Counter" "wentOver" "Z", .fieldLink RX2 36 "ChipTimers$Counter" "overs" "I", .methodLink RX2 61 yX2_takeWaitingTop, .instanceMethod yX2_takeWaitingTop, .selects RX2 yX2_takeWaitingTop yX2_takeWaitingTop, .code yX2_takeWaitingTop cX2_takeWaitingTop 1 none, .fieldLink RX2 27 "ChipTimers$Counter" "waitingTop" "I"] ++ wsX20)
def wsX2_stepDown : List Cond := .code yX2_stepDown cX2_stepDown 1 none :: ([.fieldLink RX2 30 "ChipTimers$Counter" "count" "I", .fieldLink RX2 15 "ChipTimers$Counter" "top" "I", .methodLink RX2 58 yX2_goOver, .instanceMethod yX2_goOver, .selects RX2 yX2_goOver yX2_goOver, .initialized RX2, .code yX2_goOver cX2_goOver 1 none, .fieldLink RX2 39 "ChipTimers$Counter" "wentOver" "Z", .fieldLink RX2 36 "ChipTimers$Counter" "overs" "I", .methodLink RX2 61 yX2_takeWaitingTop, .instanceMethod yX2_takeWaitingTop, .selects RX2 yX2_takeWaitingTop yX2_takeWaitingTop, .code yX2_takeWaitingTop cX2_takeWaitingTop 1 none, .fieldLink RX2 27 "ChipTimers$Counter" "waitingTop" "I"] ++ wsX20)
def wsX2_stepBothWays : List Cond := .code yX2_stepBothWays cX2_stepBothWays 1 none :: ([.fieldLink RX2 24 "ChipTimers$Counter" "way" "I", .fieldLink RX2 30 "ChipTimers$Counter" "count" "I", .fieldLink RX2 15 "ChipTimers$Counter" "top" "I", .methodLink RX2 58 yX2_goOver, .instanceMethod yX2_goOver, .selects RX2 yX2_goOver yX2_goOver, .initialized RX2, .code yX2_goOver cX2_goOver 1 none, .fieldLink RX2 39 "ChipTimers$Counter" "wentOver" "Z", .fieldLink RX2 36 "ChipTimers$Counter" "overs" "I", .methodLink RX2 61 yX2_takeWaitingTop, .instanceMethod yX2_takeWaitingTop, .selects RX2 yX2_takeWaitingTop yX2_takeWaitingTop, .code yX2_takeWaitingTop cX2_takeWaitingTop 1 none, .fieldLink RX2 27 "ChipTimers$Counter" "waitingTop" "I"] ++ wsX20)
def wsX2_step_r1 : List Cond := [Cond.fieldLink RX2 43 "ChipTimers$Counter" "stepped" "Z", Cond.fieldLink RX2 9 "ChipTimers$Counter" "mode" "I", Cond.methodLink RX2 49 yX2_stepUp, Cond.instanceMethod yX2_stepUp, Cond.selects RX2 yX2_stepUp yX2_stepUp, Cond.initialized RX2, Cond.code yX2_stepUp cX2_stepUp 1 none, Cond.fieldLink RX2 30 "ChipTimers$Counter" "count" "I", Cond.fieldLink RX2 15 "ChipTimers$Counter" "top" "I", Cond.methodLink RX2 58 yX2_goOver, Cond.instanceMethod yX2_goOver, Cond.selects RX2 yX2_goOver yX2_goOver, Cond.code yX2_goOver cX2_goOver 1 none, Cond.fieldLink RX2 39 "ChipTimers$Counter" "wentOver" "Z", Cond.fieldLink RX2 36 "ChipTimers$Counter" "overs" "I", Cond.methodLink RX2 61 yX2_takeWaitingTop, Cond.instanceMethod yX2_takeWaitingTop, Cond.selects RX2 yX2_takeWaitingTop yX2_takeWaitingTop, Cond.code yX2_takeWaitingTop cX2_takeWaitingTop 1 none, Cond.fieldLink RX2 27 "ChipTimers$Counter" "waitingTop" "I", Cond.methodLink RX2 52 yX2_stepDown, Cond.instanceMethod yX2_stepDown, Cond.selects RX2 yX2_stepDown yX2_stepDown, Cond.code yX2_stepDown cX2_stepDown 1 none]
def wsX2_step_r2 : List Cond := [Cond.methodLink RX2 55 yX2_stepBothWays, Cond.instanceMethod yX2_stepBothWays, Cond.selects RX2 yX2_stepBothWays yX2_stepBothWays, Cond.code yX2_stepBothWays cX2_stepBothWays 1 none, Cond.fieldLink RX2 24 "ChipTimers$Counter" "way" "I"]
def wsX2_step : List Cond := .code yX2_step cX2_step 1 none :: ((wsX2_step_r1 ++ wsX2_step_r2) ++ wsX20)
def wsX2_pass_r1 : List Cond := [Cond.fieldLink RX2 39 "ChipTimers$Counter" "wentOver" "Z", Cond.fieldLink RX2 43 "ChipTimers$Counter" "stepped" "Z", Cond.fieldLink RX2 33 "ChipTimers$Counter" "phase" "I", Cond.fieldLink RX2 18 "ChipTimers$Counter" "share" "I", Cond.methodLink RX2 46 yX2_step, Cond.instanceMethod yX2_step, Cond.selects RX2 yX2_step yX2_step, Cond.initialized RX2, Cond.code yX2_step cX2_step 1 none, Cond.fieldLink RX2 9 "ChipTimers$Counter" "mode" "I", Cond.methodLink RX2 49 yX2_stepUp, Cond.instanceMethod yX2_stepUp, Cond.selects RX2 yX2_stepUp yX2_stepUp, Cond.code yX2_stepUp cX2_stepUp 1 none, Cond.fieldLink RX2 30 "ChipTimers$Counter" "count" "I", Cond.fieldLink RX2 15 "ChipTimers$Counter" "top" "I", Cond.methodLink RX2 58 yX2_goOver, Cond.instanceMethod yX2_goOver, Cond.selects RX2 yX2_goOver yX2_goOver, Cond.code yX2_goOver cX2_goOver 1 none, Cond.fieldLink RX2 36 "ChipTimers$Counter" "overs" "I", Cond.methodLink RX2 61 yX2_takeWaitingTop, Cond.instanceMethod yX2_takeWaitingTop, Cond.selects RX2 yX2_takeWaitingTop yX2_takeWaitingTop]
def wsX2_pass_r2 : List Cond := [Cond.code yX2_takeWaitingTop cX2_takeWaitingTop 1 none, Cond.fieldLink RX2 27 "ChipTimers$Counter" "waitingTop" "I", Cond.methodLink RX2 52 yX2_stepDown, Cond.instanceMethod yX2_stepDown, Cond.selects RX2 yX2_stepDown yX2_stepDown, Cond.code yX2_stepDown cX2_stepDown 1 none, Cond.methodLink RX2 55 yX2_stepBothWays, Cond.instanceMethod yX2_stepBothWays, Cond.selects RX2 yX2_stepBothWays yX2_stepBothWays, Cond.code yX2_stepBothWays cX2_stepBothWays 1 none, Cond.fieldLink RX2 24 "ChipTimers$Counter" "way" "I"]
def wsX2_pass : List Cond := .code yX2_pass cX2_pass 2 none :: ((wsX2_pass_r1 ++ wsX2_pass_r2) ++ wsX20)
def wsX2_tell : List Cond := .code yX2_tell cX2_tell 2 (some .int) :: ([.fieldLink RX2 30 "ChipTimers$Counter" "count" "I", .fieldLink RX2 15 "ChipTimers$Counter" "top" "I", .fieldLink RX2 9 "ChipTimers$Counter" "mode" "I", .fieldLink RX2 18 "ChipTimers$Counter" "share" "I", .fieldLink RX2 21 "ChipTimers$Counter" "source" "I", .fieldLink RX2 33 "ChipTimers$Counter" "phase" "I", .fieldLink RX2 24 "ChipTimers$Counter" "way" "I", .fieldLink RX2 36 "ChipTimers$Counter" "overs" "I", .fieldLink RX2 27 "ChipTimers$Counter" "waitingTop" "I"] ++ wsX20)
def wsX3_init : List Cond := .code yX3_init cX3_init 1 none :: ([.methodLink RX3 3 objectInit, .instanceMethod objectInit, .code objectInit ⟨#[0xb1]⟩ 1 none, .fieldLink RX3 9 "ChipTimers$Input" "filter" "I"] ++ wsX30)
def wsX3_look : List Cond := .code yX3_look cX3_look 1 none :: ([.fieldLink RX3 15 "ChipTimers$Input" "edge" "I", .fieldLink RX3 18 "ChipTimers$Input" "raw" "I", .fieldLink RX3 21 "ChipTimers$Input" "steady" "I", .fieldLink RX3 24 "ChipTimers$Input" "run" "I", .fieldLink RX3 9 "ChipTimers$Input" "filter" "I"] ++ wsX30)
def wsX3_tell : List Cond := .code yX3_tell cX3_tell 2 (some .int) :: ([.fieldLink RX3 18 "ChipTimers$Input" "raw" "I", .fieldLink RX3 21 "ChipTimers$Input" "steady" "I", .fieldLink RX3 24 "ChipTimers$Input" "run" "I", .fieldLink RX3 9 "ChipTimers$Input" "filter" "I"] ++ wsX30)
def wsX4_init : List Cond := .code yX4_init cX4_init 1 none :: ([.methodLink RX4 3 objectInit, .instanceMethod objectInit, .code objectInit ⟨#[0xb1]⟩ 1 none, .fieldLink RX4 9 "ChipTimers$Pair" "held" "I"] ++ wsX40)
def wsX4_takeHigh : List Cond := .code yX4_takeHigh cX4_takeHigh 3 (some .int) :: ([.fieldLink RX4 15 "ChipTimers$Pair" "holding" "I", .fieldLink RX4 9 "ChipTimers$Pair" "held" "I"] ++ wsX40)
def wsX5_init : List Cond := .code yX5_init cX5_init 1 none :: ([.methodLink RX5 3 objectInit, .instanceMethod objectInit, .code objectInit ⟨#[0xb1]⟩ 1 none, .arrayClass .int, .fieldLink RX5 9 "ChipTimers$Pins" "levels" "[I", .fieldLink RX5 15 "ChipTimers$Pins" "entryTicks" "[I", .fieldLink RX5 18 "ChipTimers$Pins" "entryPins" "[I", .fieldLink RX5 21 "ChipTimers$Pins" "entryLevels" "[I"] ++ wsX50)
def wsX5_drive : List Cond := .code yX5_drive cX5_drive 4 none :: ([.fieldLink RX5 9 "ChipTimers$Pins" "levels" "[I", .fieldLink RX5 15 "ChipTimers$Pins" "entryTicks" "[I", .fieldLink RX5 24 "ChipTimers$Pins" "next" "I", .fieldLink RX5 18 "ChipTimers$Pins" "entryPins" "[I", .fieldLink RX5 21 "ChipTimers$Pins" "entryLevels" "[I", .fieldLink RX5 28 "ChipTimers$Pins" "entries" "I", .methodLink RX5 31 Lib.Math.min.name, .static Lib.Math.min.name, .initialized "java/lang/Math", .code Lib.Math.min.name Lib.Math.min.code 2 (some .int)] ++ wsX50)
def wsX7_within : List Cond := .code yX7_within cX7_within 3 (some .boolean) :: ([])
def wsX5_tell : List Cond := .code yX5_tell cX5_tell 4 (some .int) :: ([.fieldLink RX5 28 "ChipTimers$Pins" "entries" "I", .fieldLink RX5 24 "ChipTimers$Pins" "next" "I", .fieldLink RX5 15 "ChipTimers$Pins" "entryTicks" "[I", .fieldLink RX5 18 "ChipTimers$Pins" "entryPins" "[I", .fieldLink RX5 21 "ChipTimers$Pins" "entryLevels" "[I", .static yX7_within, .initialized RX7, .code yX7_within cX7_within 3 (some .boolean)] ++ wsX50)
def wsX6_init : List Cond := .code yX6_init cX6_init 1 none :: ([.methodLink RX6 3 objectInit, .instanceMethod objectInit, .code objectInit ⟨#[0xb1]⟩ 1 none, .fieldLink RX6 9 "ChipTimers$SlowClock" "period" "I", .fieldLink RX6 15 "ChipTimers$SlowClock" "how" "I"] ++ wsX60)
def wsX6_setUp : List Cond := .code yX6_setUp cX6_setUp 4 none :: ([.fieldLink RX6 9 "ChipTimers$SlowClock" "period" "I", .fieldLink RX6 18 "ChipTimers$SlowClock" "counter" "I", .fieldLink RX6 15 "ChipTimers$SlowClock" "how" "I", .fieldLink RX6 21 "ChipTimers$SlowClock" "first" "I", .fieldLink RX6 24 "ChipTimers$SlowClock" "second" "I"] ++ wsX60)
def wsX6_twist : List Cond := .code yX6_twist cX6_twist 1 (some .int) :: ([])
def wsX6_untwist : List Cond := .code yX6_untwist cX6_untwist 2 (some .int) :: ([])
def wsX6_sample : List Cond := .code yX6_sample cX6_sample 3 none :: ([.fieldLink RX6 21 "ChipTimers$SlowClock" "first" "I", .fieldLink RX6 24 "ChipTimers$SlowClock" "second" "I", .fieldLink RX6 15 "ChipTimers$SlowClock" "how" "I", .methodLink RX6 27 yX6_twist, .static yX6_twist, .initialized RX6, .code yX6_twist cX6_twist 1 (some .int), .methodLink RX6 31 yX6_untwist, .static yX6_untwist, .code yX6_untwist cX6_untwist 2 (some .int)] ++ wsX60)
def wsX6_tell : List Cond := .code yX6_tell cX6_tell 2 (some .int) :: ([.fieldLink RX6 21 "ChipTimers$SlowClock" "first" "I", .fieldLink RX6 24 "ChipTimers$SlowClock" "second" "I", .fieldLink RX6 9 "ChipTimers$SlowClock" "period" "I", .fieldLink RX6 18 "ChipTimers$SlowClock" "counter" "I", .fieldLink RX6 15 "ChipTimers$SlowClock" "how" "I"] ++ wsX60)
def wsX7_init_r1 : List Cond := [Cond.methodLink RX7 3 objectInit, Cond.instanceMethod objectInit, Cond.code objectInit ⟨#[0xb1]⟩ 1 none, Cond.classLink RX7 9 RX2, Cond.fieldLink RX7 11 "ChipTimers" "counters" "[LChipTimers$Counter;", Cond.classLink RX7 15 RX3, Cond.fieldLink RX7 17 "ChipTimers" "inputs" "[LChipTimers$Input;", Cond.classLink RX7 21 RX0, Cond.fieldLink RX7 23 "ChipTimers" "catchers" "[LChipTimers$Catcher;", Cond.classLink RX7 27 RX1, Cond.fieldLink RX7 29 "ChipTimers" "channels" "[LChipTimers$Channel;", Cond.classLink RX7 33 RX4, Cond.fieldLink RX7 35 "ChipTimers" "pairs" "[LChipTimers$Pair;", Cond.classLink RX7 39 RX5, Cond.instantiable RX5 6, Cond.initialized RX5, Cond.fieldLink RX7 42 "ChipTimers" "pins" "LChipTimers$Pins;", Cond.classLink RX7 46 RX6, Cond.instantiable RX6 5, Cond.initialized RX6, Cond.fieldLink RX7 49 "ChipTimers" "slowClock" "LChipTimers$SlowClock;", Cond.instantiable RX2 11, Cond.initialized RX2, Cond.instantiable RX3 5]
def wsX7_init_r2 : List Cond := [Cond.initialized RX3, Cond.instantiable RX0 7, Cond.initialized RX0, Cond.instantiable RX1 8, Cond.initialized RX1, Cond.instantiable RX4 2, Cond.initialized RX4, Cond.instanceMethod yX5_init, Cond.code yX5_init cX5_init 1 none, Cond.methodLink RX5 3 objectInit, Cond.arrayClass .int, Cond.fieldLink RX5 9 "ChipTimers$Pins" "levels" "[I", Cond.fieldLink RX5 15 "ChipTimers$Pins" "entryTicks" "[I", Cond.fieldLink RX5 18 "ChipTimers$Pins" "entryPins" "[I", Cond.fieldLink RX5 21 "ChipTimers$Pins" "entryLevels" "[I", Cond.instanceMethod yX6_init, Cond.code yX6_init cX6_init 1 none, Cond.methodLink RX6 3 objectInit, Cond.fieldLink RX6 9 "ChipTimers$SlowClock" "period" "I", Cond.fieldLink RX6 15 "ChipTimers$SlowClock" "how" "I", Cond.instanceMethod yX2_init, Cond.code yX2_init cX2_init 1 none, Cond.methodLink RX2 3 objectInit, Cond.fieldLink RX2 9 "ChipTimers$Counter" "mode" "I"]
def wsX7_init_r3 : List Cond := [Cond.fieldLink RX2 15 "ChipTimers$Counter" "top" "I", Cond.fieldLink RX2 18 "ChipTimers$Counter" "share" "I", Cond.fieldLink RX2 21 "ChipTimers$Counter" "source" "I", Cond.fieldLink RX2 24 "ChipTimers$Counter" "way" "I", Cond.fieldLink RX2 27 "ChipTimers$Counter" "waitingTop" "I", Cond.instanceMethod yX3_init, Cond.code yX3_init cX3_init 1 none, Cond.methodLink RX3 3 objectInit, Cond.fieldLink RX3 9 "ChipTimers$Input" "filter" "I", Cond.instanceMethod yX0_init, Cond.code yX0_init cX0_init 1 none, Cond.methodLink RX0 3 objectInit, Cond.fieldLink RX0 9 "ChipTimers$Catcher" "every" "I", Cond.instanceMethod yX1_init, Cond.code yX1_init cX1_init 1 none, Cond.methodLink RX1 3 objectInit, Cond.fieldLink RX1 9 "ChipTimers$Channel" "mode" "I", Cond.instanceMethod yX4_init, Cond.code yX4_init cX4_init 1 none, Cond.methodLink RX4 3 objectInit, Cond.fieldLink RX4 9 "ChipTimers$Pair" "held" "I"]
def wsX7_init : List Cond := .code yX7_init cX7_init 2 none :: ((wsX7_init_r1 ++ (wsX7_init_r2 ++ wsX7_init_r3)) ++ wsX70 ++ wsX50 ++ wsX60 ++ wsX20 ++ wsX30 ++ wsX00 ++ wsX10 ++ wsX40)
def wsX7_isOneOf : List Cond := .code yX7_isOneOf cX7_isOneOf 2 (some .boolean) :: ([])
def wsX7_counter : List Cond := .code yX7_counter cX7_counter 5 (some .int) :: ([.fieldLink RX7 11 "ChipTimers" "counters" "[LChipTimers$Counter;", .methodLink RX7 58 yX7_isOneOf, .static yX7_isOneOf, .initialized RX7, .code yX7_isOneOf cX7_isOneOf 2 (some .boolean), .methodLink RX7 62 yX7_within, .static yX7_within, .code yX7_within cX7_within 3 (some .boolean), .methodLink RX7 66 yX2_setUp, .instanceMethod yX2_setUp, .selects RX2 yX2_setUp yX2_setUp, .initialized RX2, .code yX2_setUp cX2_setUp 4 none, .fieldLink RX2 9 "ChipTimers$Counter" "mode" "I", .fieldLink RX2 15 "ChipTimers$Counter" "top" "I", .fieldLink RX2 18 "ChipTimers$Counter" "share" "I", .fieldLink RX2 30 "ChipTimers$Counter" "count" "I", .fieldLink RX2 33 "ChipTimers$Counter" "phase" "I", .fieldLink RX2 24 "ChipTimers$Counter" "way" "I", .fieldLink RX2 36 "ChipTimers$Counter" "overs" "I", .fieldLink RX2 27 "ChipTimers$Counter" "waitingTop" "I"] ++ wsX70 ++ wsX20)
def wsX7_source : List Cond := .code yX7_source cX7_source 4 (some .int) :: ([.fieldLink RX7 11 "ChipTimers" "counters" "[LChipTimers$Counter;", .fieldLink RX7 70 "ChipTimers$Counter" "source" "I", .methodLink RX7 58 yX7_isOneOf, .static yX7_isOneOf, .initialized RX7, .code yX7_isOneOf cX7_isOneOf 2 (some .boolean), .methodLink RX7 62 yX7_within, .static yX7_within, .code yX7_within cX7_within 3 (some .boolean)] ++ wsX70 ++ wsX20)
def wsX7_count : List Cond := .code yX7_count cX7_count 4 (some .int) :: ([.fieldLink RX7 11 "ChipTimers" "counters" "[LChipTimers$Counter;", .fieldLink RX7 74 "ChipTimers$Counter" "top" "I", .fieldLink RX7 77 "ChipTimers$Counter" "count" "I", .methodLink RX7 58 yX7_isOneOf, .static yX7_isOneOf, .initialized RX7, .code yX7_isOneOf cX7_isOneOf 2 (some .boolean), .methodLink RX7 62 yX7_within, .static yX7_within, .code yX7_within cX7_within 3 (some .boolean)] ++ wsX70 ++ wsX20)
def wsX7_top : List Cond := .code yX7_top cX7_top 3 (some .int) :: ([.fieldLink RX7 11 "ChipTimers" "counters" "[LChipTimers$Counter;", .fieldLink RX7 80 "ChipTimers$Counter" "waitingTop" "I", .fieldLink RX7 74 "ChipTimers$Counter" "top" "I", .methodLink RX7 58 yX7_isOneOf, .static yX7_isOneOf, .initialized RX7, .code yX7_isOneOf cX7_isOneOf 2 (some .boolean), .methodLink RX7 62 yX7_within, .static yX7_within, .code yX7_within cX7_within 3 (some .boolean)] ++ wsX70 ++ wsX20)
def wsX7_ofCounter : List Cond := .code yX7_ofCounter cX7_ofCounter 3 (some .int) :: ([.fieldLink RX7 11 "ChipTimers" "counters" "[LChipTimers$Counter;", .methodLink RX7 58 yX7_isOneOf, .static yX7_isOneOf, .initialized RX7, .code yX7_isOneOf cX7_isOneOf 2 (some .boolean), .methodLink RX7 83 yX2_tell, .instanceMethod yX2_tell, .selects RX2 yX2_tell yX2_tell, .initialized RX2, .code yX2_tell cX2_tell 2 (some .int), .fieldLink RX2 30 "ChipTimers$Counter" "count" "I", .fieldLink RX2 15 "ChipTimers$Counter" "top" "I", .fieldLink RX2 9 "ChipTimers$Counter" "mode" "I", .fieldLink RX2 18 "ChipTimers$Counter" "share" "I", .fieldLink RX2 21 "ChipTimers$Counter" "source" "I", .fieldLink RX2 33 "ChipTimers$Counter" "phase" "I", .fieldLink RX2 24 "ChipTimers$Counter" "way" "I", .fieldLink RX2 36 "ChipTimers$Counter" "overs" "I", .fieldLink RX2 27 "ChipTimers$Counter" "waitingTop" "I"] ++ wsX70 ++ wsX20)
def wsX7_input : List Cond := .code yX7_input cX7_input 4 (some .int) :: ([.fieldLink RX7 17 "ChipTimers" "inputs" "[LChipTimers$Input;", .fieldLink RX7 87 "ChipTimers$Input" "raw" "I", .methodLink RX7 58 yX7_isOneOf, .static yX7_isOneOf, .initialized RX7, .code yX7_isOneOf cX7_isOneOf 2 (some .boolean), .methodLink RX7 62 yX7_within, .static yX7_within, .code yX7_within cX7_within 3 (some .boolean)] ++ wsX70 ++ wsX30)
def wsX7_filter : List Cond := .code yX7_filter cX7_filter 4 (some .int) :: ([.fieldLink RX7 17 "ChipTimers" "inputs" "[LChipTimers$Input;", .fieldLink RX7 90 "ChipTimers$Input" "filter" "I", .methodLink RX7 58 yX7_isOneOf, .static yX7_isOneOf, .initialized RX7, .code yX7_isOneOf cX7_isOneOf 2 (some .boolean), .methodLink RX7 62 yX7_within, .static yX7_within, .code yX7_within cX7_within 3 (some .boolean)] ++ wsX70 ++ wsX30)
def wsX7_ofInput : List Cond := .code yX7_ofInput cX7_ofInput 3 (some .int) :: ([.fieldLink RX7 17 "ChipTimers" "inputs" "[LChipTimers$Input;", .methodLink RX7 58 yX7_isOneOf, .static yX7_isOneOf, .initialized RX7, .code yX7_isOneOf cX7_isOneOf 2 (some .boolean), .methodLink RX7 93 yX3_tell, .instanceMethod yX3_tell, .selects RX3 yX3_tell yX3_tell, .initialized RX3, .code yX3_tell cX3_tell 2 (some .int), .fieldLink RX3 18 "ChipTimers$Input" "raw" "I", .fieldLink RX3 21 "ChipTimers$Input" "steady" "I", .fieldLink RX3 24 "ChipTimers$Input" "run" "I", .fieldLink RX3 9 "ChipTimers$Input" "filter" "I"] ++ wsX70 ++ wsX30)
def wsX7_catcher : List Cond := .code yX7_catcher cX7_catcher 5 (some .int) :: ([.fieldLink RX7 23 "ChipTimers" "catchers" "[LChipTimers$Catcher;", .methodLink RX7 58 yX7_isOneOf, .static yX7_isOneOf, .initialized RX7, .code yX7_isOneOf cX7_isOneOf 2 (some .boolean), .methodLink RX7 62 yX7_within, .static yX7_within, .code yX7_within cX7_within 3 (some .boolean), .methodLink RX7 94 yX0_setUp, .instanceMethod yX0_setUp, .selects RX0 yX0_setUp yX0_setUp, .initialized RX0, .code yX0_setUp cX0_setUp 4 none, .fieldLink RX0 15 "ChipTimers$Catcher" "counter" "I", .fieldLink RX0 18 "ChipTimers$Catcher" "edges" "I", .fieldLink RX0 9 "ChipTimers$Catcher" "every" "I", .fieldLink RX0 21 "ChipTimers$Catcher" "seen" "I", .fieldLink RX0 24 "ChipTimers$Catcher" "value" "I", .fieldLink RX0 27 "ChipTimers$Catcher" "ready" "I", .fieldLink RX0 30 "ChipTimers$Catcher" "missed" "I"] ++ wsX70 ++ wsX00)
def wsX7_taken : List Cond := .code yX7_taken cX7_taken 2 (some .int) :: ([.fieldLink RX7 23 "ChipTimers" "catchers" "[LChipTimers$Catcher;", .methodLink RX7 58 yX7_isOneOf, .static yX7_isOneOf, .initialized RX7, .code yX7_isOneOf cX7_isOneOf 2 (some .boolean), .methodLink RX7 95 yX0_handOver, .instanceMethod yX0_handOver, .selects RX0 yX0_handOver yX0_handOver, .initialized RX0, .code yX0_handOver cX0_handOver 2 (some .int), .fieldLink RX0 27 "ChipTimers$Catcher" "ready" "I", .fieldLink RX0 24 "ChipTimers$Catcher" "value" "I"] ++ wsX70 ++ wsX00)
def wsX7_ofCatcher : List Cond := .code yX7_ofCatcher cX7_ofCatcher 3 (some .int) :: ([.fieldLink RX7 23 "ChipTimers" "catchers" "[LChipTimers$Catcher;", .methodLink RX7 58 yX7_isOneOf, .static yX7_isOneOf, .initialized RX7, .code yX7_isOneOf cX7_isOneOf 2 (some .boolean), .methodLink RX7 99 yX0_tell, .instanceMethod yX0_tell, .selects RX0 yX0_tell yX0_tell, .initialized RX0, .code yX0_tell cX0_tell 2 (some .int), .fieldLink RX0 15 "ChipTimers$Catcher" "counter" "I", .fieldLink RX0 18 "ChipTimers$Catcher" "edges" "I", .fieldLink RX0 9 "ChipTimers$Catcher" "every" "I", .fieldLink RX0 21 "ChipTimers$Catcher" "seen" "I", .fieldLink RX0 24 "ChipTimers$Catcher" "value" "I", .fieldLink RX0 27 "ChipTimers$Catcher" "ready" "I", .fieldLink RX0 30 "ChipTimers$Catcher" "missed" "I"] ++ wsX70 ++ wsX00)
def wsX7_hasPulse : List Cond := .code yX7_hasPulse cX7_hasPulse 2 (some .boolean) :: ([.fieldLink RX7 11 "ChipTimers" "counters" "[LChipTimers$Counter;", .fieldLink RX7 70 "ChipTimers$Counter" "source" "I", .fieldLink RX7 189 "ChipTimers$Counter" "wentOver" "Z", .fieldLink RX7 17 "ChipTimers" "inputs" "[LChipTimers$Input;", .fieldLink RX7 170 "ChipTimers$Input" "edge" "I"] ++ wsX70 ++ wsX20 ++ wsX30)
def wsX7_workOutPins_r1 : List Cond := [Cond.fieldLink RX7 42 "ChipTimers" "pins" "LChipTimers$Pins;", Cond.fieldLink RX7 29 "ChipTimers" "channels" "[LChipTimers$Channel;", Cond.fieldLink RX7 117 "ChipTimers" "braked" "Z", Cond.fieldLink RX7 103 "ChipTimers" "tickCount" "I", Cond.methodLink RX7 192 yX1_pinLevel, Cond.instanceMethod yX1_pinLevel, Cond.selects RX1 yX1_pinLevel yX1_pinLevel, Cond.initialized RX1, Cond.code yX1_pinLevel cX1_pinLevel 4 (some .int), Cond.fieldLink RX1 33 "ChipTimers$Channel" "safe" "I", Cond.fieldLink RX1 30 "ChipTimers$Channel" "polarity" "I", Cond.methodLink RX1 55 yX1_outputsOn, Cond.instanceMethod yX1_outputsOn, Cond.selects RX1 yX1_outputsOn yX1_outputsOn, Cond.code yX1_outputsOn cX1_outputsOn 2 (some .int), Cond.fieldLink RX1 9 "ChipTimers$Channel" "mode" "I", Cond.fieldLink RX1 24 "ChipTimers$Channel" "since" "I", Cond.fieldLink RX1 27 "ChipTimers$Channel" "dead" "I", Cond.fieldLink RX1 21 "ChipTimers$Channel" "level" "I", Cond.methodLink RX7 195 yX5_drive, Cond.instanceMethod yX5_drive, Cond.selects RX5 yX5_drive yX5_drive, Cond.initialized RX5, Cond.code yX5_drive cX5_drive 4 none]
def wsX7_workOutPins_r2 : List Cond := [Cond.fieldLink RX5 9 "ChipTimers$Pins" "levels" "[I", Cond.fieldLink RX5 15 "ChipTimers$Pins" "entryTicks" "[I", Cond.fieldLink RX5 24 "ChipTimers$Pins" "next" "I", Cond.fieldLink RX5 18 "ChipTimers$Pins" "entryPins" "[I", Cond.fieldLink RX5 21 "ChipTimers$Pins" "entryLevels" "[I", Cond.fieldLink RX5 28 "ChipTimers$Pins" "entries" "I", Cond.methodLink RX5 31 Lib.Math.min.name, Cond.static Lib.Math.min.name, Cond.initialized "java/lang/Math", Cond.code Lib.Math.min.name Lib.Math.min.code 2 (some .int)]
def wsX7_workOutPins : List Cond := .code yX7_workOutPins cX7_workOutPins 3 none :: ((wsX7_workOutPins_r1 ++ wsX7_workOutPins_r2) ++ wsX70 ++ wsX10 ++ wsX50)
def wsX7_runTick_r1 : List Cond := [Cond.fieldLink RX7 103 "ChipTimers" "tickCount" "I", Cond.fieldLink RX7 11 "ChipTimers" "counters" "[LChipTimers$Counter;", Cond.fieldLink RX7 49 "ChipTimers" "slowClock" "LChipTimers$SlowClock;", Cond.fieldLink RX7 157 "ChipTimers$SlowClock" "counter" "I", Cond.fieldLink RX7 77 "ChipTimers$Counter" "count" "I", Cond.fieldLink RX7 17 "ChipTimers" "inputs" "[LChipTimers$Input;", Cond.fieldLink RX7 23 "ChipTimers" "catchers" "[LChipTimers$Catcher;", Cond.fieldLink RX7 170 "ChipTimers$Input" "edge" "I", Cond.fieldLink RX7 173 "ChipTimers$Catcher" "counter" "I", Cond.fieldLink RX7 29 "ChipTimers" "channels" "[LChipTimers$Channel;", Cond.fieldLink RX7 178 "ChipTimers$Channel" "counter" "I", Cond.fieldLink RX7 183 "ChipTimers$SlowClock" "period" "I", Cond.methodLink RX7 160 yX3_look, Cond.instanceMethod yX3_look, Cond.selects RX3 yX3_look yX3_look, Cond.initialized RX3, Cond.code yX3_look cX3_look 1 none, Cond.fieldLink RX3 15 "ChipTimers$Input" "edge" "I", Cond.fieldLink RX3 18 "ChipTimers$Input" "raw" "I", Cond.fieldLink RX3 21 "ChipTimers$Input" "steady" "I", Cond.fieldLink RX3 24 "ChipTimers$Input" "run" "I", Cond.fieldLink RX3 9 "ChipTimers$Input" "filter" "I", Cond.methodLink RX7 163 yX7_hasPulse, Cond.instanceMethod yX7_hasPulse]
def wsX7_runTick_r2 : List Cond := [Cond.selects RX7 yX7_hasPulse yX7_hasPulse, Cond.initialized RX7, Cond.code yX7_hasPulse cX7_hasPulse 2 (some .boolean), Cond.fieldLink RX7 70 "ChipTimers$Counter" "source" "I", Cond.fieldLink RX7 189 "ChipTimers$Counter" "wentOver" "Z", Cond.methodLink RX7 166 yX2_pass, Cond.instanceMethod yX2_pass, Cond.selects RX2 yX2_pass yX2_pass, Cond.initialized RX2, Cond.code yX2_pass cX2_pass 2 none, Cond.fieldLink RX2 39 "ChipTimers$Counter" "wentOver" "Z", Cond.fieldLink RX2 43 "ChipTimers$Counter" "stepped" "Z", Cond.fieldLink RX2 33 "ChipTimers$Counter" "phase" "I", Cond.fieldLink RX2 18 "ChipTimers$Counter" "share" "I", Cond.methodLink RX2 46 yX2_step, Cond.instanceMethod yX2_step, Cond.selects RX2 yX2_step yX2_step, Cond.code yX2_step cX2_step 1 none, Cond.fieldLink RX2 9 "ChipTimers$Counter" "mode" "I", Cond.methodLink RX2 49 yX2_stepUp, Cond.instanceMethod yX2_stepUp, Cond.selects RX2 yX2_stepUp yX2_stepUp, Cond.code yX2_stepUp cX2_stepUp 1 none, Cond.fieldLink RX2 30 "ChipTimers$Counter" "count" "I"]
def wsX7_runTick_r3 : List Cond := [Cond.fieldLink RX2 15 "ChipTimers$Counter" "top" "I", Cond.methodLink RX2 58 yX2_goOver, Cond.instanceMethod yX2_goOver, Cond.selects RX2 yX2_goOver yX2_goOver, Cond.code yX2_goOver cX2_goOver 1 none, Cond.fieldLink RX2 36 "ChipTimers$Counter" "overs" "I", Cond.methodLink RX2 61 yX2_takeWaitingTop, Cond.instanceMethod yX2_takeWaitingTop, Cond.selects RX2 yX2_takeWaitingTop yX2_takeWaitingTop, Cond.code yX2_takeWaitingTop cX2_takeWaitingTop 1 none, Cond.fieldLink RX2 27 "ChipTimers$Counter" "waitingTop" "I", Cond.methodLink RX2 52 yX2_stepDown, Cond.instanceMethod yX2_stepDown, Cond.selects RX2 yX2_stepDown yX2_stepDown, Cond.code yX2_stepDown cX2_stepDown 1 none, Cond.methodLink RX2 55 yX2_stepBothWays, Cond.instanceMethod yX2_stepBothWays, Cond.selects RX2 yX2_stepBothWays yX2_stepBothWays, Cond.code yX2_stepBothWays cX2_stepBothWays 1 none, Cond.fieldLink RX2 24 "ChipTimers$Counter" "way" "I", Cond.methodLink RX7 174 yX0_notice, Cond.instanceMethod yX0_notice, Cond.selects RX0 yX0_notice yX0_notice, Cond.initialized RX0]
def wsX7_runTick_r4 : List Cond := [Cond.code yX0_notice cX0_notice 3 none, Cond.fieldLink RX0 18 "ChipTimers$Catcher" "edges" "I", Cond.fieldLink RX0 21 "ChipTimers$Catcher" "seen" "I", Cond.fieldLink RX0 9 "ChipTimers$Catcher" "every" "I", Cond.fieldLink RX0 30 "ChipTimers$Catcher" "missed" "I", Cond.fieldLink RX0 27 "ChipTimers$Catcher" "ready" "I", Cond.fieldLink RX0 24 "ChipTimers$Catcher" "value" "I", Cond.methodLink RX7 179 yX1_follow, Cond.instanceMethod yX1_follow, Cond.selects RX1 yX1_follow yX1_follow, Cond.initialized RX1, Cond.code yX1_follow cX1_follow 3 none, Cond.fieldLink RX1 21 "ChipTimers$Channel" "level" "I", Cond.fieldLink RX1 24 "ChipTimers$Channel" "since" "I", Cond.methodLink RX1 40 Lib.Math.min.name, Cond.static Lib.Math.min.name, Cond.initialized "java/lang/Math", Cond.code Lib.Math.min.name Lib.Math.min.code 2 (some .int), Cond.methodLink RX1 36 yX1_nextLevel, Cond.instanceMethod yX1_nextLevel, Cond.selects RX1 yX1_nextLevel yX1_nextLevel, Cond.code yX1_nextLevel cX1_nextLevel 3 (some .int), Cond.fieldLink RX1 46 "ChipTimers$Counter" "stepped" "Z", Cond.fieldLink RX1 52 "ChipTimers$Counter" "count" "I"]
def wsX7_runTick_r5 : List Cond := [Cond.fieldLink RX1 18 "ChipTimers$Channel" "mark" "I", Cond.fieldLink RX1 9 "ChipTimers$Channel" "mode" "I", Cond.methodLink RX7 186 yX6_sample, Cond.instanceMethod yX6_sample, Cond.selects RX6 yX6_sample yX6_sample, Cond.initialized RX6, Cond.code yX6_sample cX6_sample 3 none, Cond.fieldLink RX6 21 "ChipTimers$SlowClock" "first" "I", Cond.fieldLink RX6 24 "ChipTimers$SlowClock" "second" "I", Cond.fieldLink RX6 15 "ChipTimers$SlowClock" "how" "I", Cond.methodLink RX6 27 yX6_twist, Cond.static yX6_twist, Cond.code yX6_twist cX6_twist 1 (some .int), Cond.methodLink RX6 31 yX6_untwist, Cond.static yX6_untwist, Cond.code yX6_untwist cX6_untwist 2 (some .int), Cond.methodLink RX7 107 yX7_workOutPins, Cond.instanceMethod yX7_workOutPins, Cond.selects RX7 yX7_workOutPins yX7_workOutPins, Cond.code yX7_workOutPins cX7_workOutPins 3 none, Cond.fieldLink RX7 42 "ChipTimers" "pins" "LChipTimers$Pins;", Cond.fieldLink RX7 117 "ChipTimers" "braked" "Z", Cond.methodLink RX7 192 yX1_pinLevel, Cond.instanceMethod yX1_pinLevel]
def wsX7_runTick_r6 : List Cond := [Cond.selects RX1 yX1_pinLevel yX1_pinLevel, Cond.code yX1_pinLevel cX1_pinLevel 4 (some .int), Cond.fieldLink RX1 33 "ChipTimers$Channel" "safe" "I", Cond.fieldLink RX1 30 "ChipTimers$Channel" "polarity" "I", Cond.methodLink RX1 55 yX1_outputsOn, Cond.instanceMethod yX1_outputsOn, Cond.selects RX1 yX1_outputsOn yX1_outputsOn, Cond.code yX1_outputsOn cX1_outputsOn 2 (some .int), Cond.fieldLink RX1 27 "ChipTimers$Channel" "dead" "I", Cond.methodLink RX7 195 yX5_drive, Cond.instanceMethod yX5_drive, Cond.selects RX5 yX5_drive yX5_drive, Cond.initialized RX5, Cond.code yX5_drive cX5_drive 4 none, Cond.fieldLink RX5 9 "ChipTimers$Pins" "levels" "[I", Cond.fieldLink RX5 15 "ChipTimers$Pins" "entryTicks" "[I", Cond.fieldLink RX5 24 "ChipTimers$Pins" "next" "I", Cond.fieldLink RX5 18 "ChipTimers$Pins" "entryPins" "[I", Cond.fieldLink RX5 21 "ChipTimers$Pins" "entryLevels" "[I", Cond.fieldLink RX5 28 "ChipTimers$Pins" "entries" "I", Cond.methodLink RX5 31 Lib.Math.min.name]
def wsX7_runTick : List Cond := .code yX7_runTick cX7_runTick 3 none :: ((wsX7_runTick_r1 ++ (wsX7_runTick_r2 ++ (wsX7_runTick_r3 ++ (wsX7_runTick_r4 ++ (wsX7_runTick_r5 ++ wsX7_runTick_r6))))) ++ wsX70 ++ wsX60 ++ wsX20 ++ wsX30 ++ wsX00 ++ wsX10 ++ wsX50)
def wsX7_ticks_r1 : List Cond := [Cond.fieldLink RX7 103 "ChipTimers" "tickCount" "I", Cond.methodLink RX7 62 yX7_within, Cond.static yX7_within, Cond.initialized RX7, Cond.code yX7_within cX7_within 3 (some .boolean), Cond.methodLink RX7 100 yX7_runTick, Cond.instanceMethod yX7_runTick, Cond.selects RX7 yX7_runTick yX7_runTick, Cond.code yX7_runTick cX7_runTick 3 none, Cond.fieldLink RX7 11 "ChipTimers" "counters" "[LChipTimers$Counter;", Cond.fieldLink RX7 49 "ChipTimers" "slowClock" "LChipTimers$SlowClock;", Cond.fieldLink RX7 157 "ChipTimers$SlowClock" "counter" "I", Cond.fieldLink RX7 77 "ChipTimers$Counter" "count" "I", Cond.fieldLink RX7 17 "ChipTimers" "inputs" "[LChipTimers$Input;", Cond.fieldLink RX7 23 "ChipTimers" "catchers" "[LChipTimers$Catcher;", Cond.fieldLink RX7 170 "ChipTimers$Input" "edge" "I", Cond.fieldLink RX7 173 "ChipTimers$Catcher" "counter" "I", Cond.fieldLink RX7 29 "ChipTimers" "channels" "[LChipTimers$Channel;", Cond.fieldLink RX7 178 "ChipTimers$Channel" "counter" "I", Cond.fieldLink RX7 183 "ChipTimers$SlowClock" "period" "I", Cond.methodLink RX7 160 yX3_look, Cond.instanceMethod yX3_look, Cond.selects RX3 yX3_look yX3_look, Cond.initialized RX3]
def wsX7_ticks_r2 : List Cond := [Cond.code yX3_look cX3_look 1 none, Cond.fieldLink RX3 15 "ChipTimers$Input" "edge" "I", Cond.fieldLink RX3 18 "ChipTimers$Input" "raw" "I", Cond.fieldLink RX3 21 "ChipTimers$Input" "steady" "I", Cond.fieldLink RX3 24 "ChipTimers$Input" "run" "I", Cond.fieldLink RX3 9 "ChipTimers$Input" "filter" "I", Cond.methodLink RX7 163 yX7_hasPulse, Cond.instanceMethod yX7_hasPulse, Cond.selects RX7 yX7_hasPulse yX7_hasPulse, Cond.code yX7_hasPulse cX7_hasPulse 2 (some .boolean), Cond.fieldLink RX7 70 "ChipTimers$Counter" "source" "I", Cond.fieldLink RX7 189 "ChipTimers$Counter" "wentOver" "Z", Cond.methodLink RX7 166 yX2_pass, Cond.instanceMethod yX2_pass, Cond.selects RX2 yX2_pass yX2_pass, Cond.initialized RX2, Cond.code yX2_pass cX2_pass 2 none, Cond.fieldLink RX2 39 "ChipTimers$Counter" "wentOver" "Z", Cond.fieldLink RX2 43 "ChipTimers$Counter" "stepped" "Z", Cond.fieldLink RX2 33 "ChipTimers$Counter" "phase" "I", Cond.fieldLink RX2 18 "ChipTimers$Counter" "share" "I", Cond.methodLink RX2 46 yX2_step, Cond.instanceMethod yX2_step, Cond.selects RX2 yX2_step yX2_step]
def wsX7_ticks_r3 : List Cond := [Cond.code yX2_step cX2_step 1 none, Cond.fieldLink RX2 9 "ChipTimers$Counter" "mode" "I", Cond.methodLink RX2 49 yX2_stepUp, Cond.instanceMethod yX2_stepUp, Cond.selects RX2 yX2_stepUp yX2_stepUp, Cond.code yX2_stepUp cX2_stepUp 1 none, Cond.fieldLink RX2 30 "ChipTimers$Counter" "count" "I", Cond.fieldLink RX2 15 "ChipTimers$Counter" "top" "I", Cond.methodLink RX2 58 yX2_goOver, Cond.instanceMethod yX2_goOver, Cond.selects RX2 yX2_goOver yX2_goOver, Cond.code yX2_goOver cX2_goOver 1 none, Cond.fieldLink RX2 36 "ChipTimers$Counter" "overs" "I", Cond.methodLink RX2 61 yX2_takeWaitingTop, Cond.instanceMethod yX2_takeWaitingTop, Cond.selects RX2 yX2_takeWaitingTop yX2_takeWaitingTop, Cond.code yX2_takeWaitingTop cX2_takeWaitingTop 1 none, Cond.fieldLink RX2 27 "ChipTimers$Counter" "waitingTop" "I", Cond.methodLink RX2 52 yX2_stepDown, Cond.instanceMethod yX2_stepDown, Cond.selects RX2 yX2_stepDown yX2_stepDown, Cond.code yX2_stepDown cX2_stepDown 1 none, Cond.methodLink RX2 55 yX2_stepBothWays, Cond.instanceMethod yX2_stepBothWays]
def wsX7_ticks_r4 : List Cond := [Cond.selects RX2 yX2_stepBothWays yX2_stepBothWays, Cond.code yX2_stepBothWays cX2_stepBothWays 1 none, Cond.fieldLink RX2 24 "ChipTimers$Counter" "way" "I", Cond.methodLink RX7 174 yX0_notice, Cond.instanceMethod yX0_notice, Cond.selects RX0 yX0_notice yX0_notice, Cond.initialized RX0, Cond.code yX0_notice cX0_notice 3 none, Cond.fieldLink RX0 18 "ChipTimers$Catcher" "edges" "I", Cond.fieldLink RX0 21 "ChipTimers$Catcher" "seen" "I", Cond.fieldLink RX0 9 "ChipTimers$Catcher" "every" "I", Cond.fieldLink RX0 30 "ChipTimers$Catcher" "missed" "I", Cond.fieldLink RX0 27 "ChipTimers$Catcher" "ready" "I", Cond.fieldLink RX0 24 "ChipTimers$Catcher" "value" "I", Cond.methodLink RX7 179 yX1_follow, Cond.instanceMethod yX1_follow, Cond.selects RX1 yX1_follow yX1_follow, Cond.initialized RX1, Cond.code yX1_follow cX1_follow 3 none, Cond.fieldLink RX1 21 "ChipTimers$Channel" "level" "I", Cond.fieldLink RX1 24 "ChipTimers$Channel" "since" "I", Cond.methodLink RX1 40 Lib.Math.min.name, Cond.static Lib.Math.min.name, Cond.initialized "java/lang/Math"]
def wsX7_ticks_r5 : List Cond := [Cond.code Lib.Math.min.name Lib.Math.min.code 2 (some .int), Cond.methodLink RX1 36 yX1_nextLevel, Cond.instanceMethod yX1_nextLevel, Cond.selects RX1 yX1_nextLevel yX1_nextLevel, Cond.code yX1_nextLevel cX1_nextLevel 3 (some .int), Cond.fieldLink RX1 46 "ChipTimers$Counter" "stepped" "Z", Cond.fieldLink RX1 52 "ChipTimers$Counter" "count" "I", Cond.fieldLink RX1 18 "ChipTimers$Channel" "mark" "I", Cond.fieldLink RX1 9 "ChipTimers$Channel" "mode" "I", Cond.methodLink RX7 186 yX6_sample, Cond.instanceMethod yX6_sample, Cond.selects RX6 yX6_sample yX6_sample, Cond.initialized RX6, Cond.code yX6_sample cX6_sample 3 none, Cond.fieldLink RX6 21 "ChipTimers$SlowClock" "first" "I", Cond.fieldLink RX6 24 "ChipTimers$SlowClock" "second" "I", Cond.fieldLink RX6 15 "ChipTimers$SlowClock" "how" "I", Cond.methodLink RX6 27 yX6_twist, Cond.static yX6_twist, Cond.code yX6_twist cX6_twist 1 (some .int), Cond.methodLink RX6 31 yX6_untwist, Cond.static yX6_untwist, Cond.code yX6_untwist cX6_untwist 2 (some .int), Cond.methodLink RX7 107 yX7_workOutPins]
def wsX7_ticks_r6 : List Cond := [Cond.instanceMethod yX7_workOutPins, Cond.selects RX7 yX7_workOutPins yX7_workOutPins, Cond.code yX7_workOutPins cX7_workOutPins 3 none, Cond.fieldLink RX7 42 "ChipTimers" "pins" "LChipTimers$Pins;", Cond.fieldLink RX7 117 "ChipTimers" "braked" "Z", Cond.methodLink RX7 192 yX1_pinLevel, Cond.instanceMethod yX1_pinLevel, Cond.selects RX1 yX1_pinLevel yX1_pinLevel, Cond.code yX1_pinLevel cX1_pinLevel 4 (some .int), Cond.fieldLink RX1 33 "ChipTimers$Channel" "safe" "I", Cond.fieldLink RX1 30 "ChipTimers$Channel" "polarity" "I", Cond.methodLink RX1 55 yX1_outputsOn, Cond.instanceMethod yX1_outputsOn, Cond.selects RX1 yX1_outputsOn yX1_outputsOn, Cond.code yX1_outputsOn cX1_outputsOn 2 (some .int), Cond.fieldLink RX1 27 "ChipTimers$Channel" "dead" "I", Cond.methodLink RX7 195 yX5_drive, Cond.instanceMethod yX5_drive, Cond.selects RX5 yX5_drive yX5_drive, Cond.initialized RX5, Cond.code yX5_drive cX5_drive 4 none, Cond.fieldLink RX5 9 "ChipTimers$Pins" "levels" "[I", Cond.fieldLink RX5 15 "ChipTimers$Pins" "entryTicks" "[I", Cond.fieldLink RX5 24 "ChipTimers$Pins" "next" "I"]
def wsX7_ticks_r7 : List Cond := [Cond.fieldLink RX5 18 "ChipTimers$Pins" "entryPins" "[I", Cond.fieldLink RX5 21 "ChipTimers$Pins" "entryLevels" "[I", Cond.fieldLink RX5 28 "ChipTimers$Pins" "entries" "I", Cond.methodLink RX5 31 Lib.Math.min.name]
def wsX7_ticks : List Cond := .code yX7_ticks cX7_ticks 3 (some .int) :: ((wsX7_ticks_r1 ++ (wsX7_ticks_r2 ++ (wsX7_ticks_r3 ++ (wsX7_ticks_r4 ++ (wsX7_ticks_r5 ++ (wsX7_ticks_r6 ++ wsX7_ticks_r7)))))) ++ wsX70 ++ wsX60 ++ wsX20 ++ wsX30 ++ wsX00 ++ wsX10 ++ wsX50)
def wsX7_channel_r1 : List Cond := [Cond.fieldLink RX7 29 "ChipTimers" "channels" "[LChipTimers$Channel;", Cond.methodLink RX7 58 yX7_isOneOf, Cond.static yX7_isOneOf, Cond.initialized RX7, Cond.code yX7_isOneOf cX7_isOneOf 2 (some .boolean), Cond.methodLink RX7 62 yX7_within, Cond.static yX7_within, Cond.code yX7_within cX7_within 3 (some .boolean), Cond.methodLink RX7 106 yX1_setUp, Cond.instanceMethod yX1_setUp, Cond.selects RX1 yX1_setUp yX1_setUp, Cond.initialized RX1, Cond.code yX1_setUp cX1_setUp 4 none, Cond.fieldLink RX1 15 "ChipTimers$Channel" "counter" "I", Cond.fieldLink RX1 9 "ChipTimers$Channel" "mode" "I", Cond.fieldLink RX1 18 "ChipTimers$Channel" "mark" "I", Cond.fieldLink RX1 21 "ChipTimers$Channel" "level" "I", Cond.fieldLink RX1 24 "ChipTimers$Channel" "since" "I", Cond.methodLink RX7 107 yX7_workOutPins, Cond.instanceMethod yX7_workOutPins, Cond.selects RX7 yX7_workOutPins yX7_workOutPins, Cond.code yX7_workOutPins cX7_workOutPins 3 none, Cond.fieldLink RX7 42 "ChipTimers" "pins" "LChipTimers$Pins;", Cond.fieldLink RX7 117 "ChipTimers" "braked" "Z"]
def wsX7_channel_r2 : List Cond := [Cond.fieldLink RX7 103 "ChipTimers" "tickCount" "I", Cond.methodLink RX7 192 yX1_pinLevel, Cond.instanceMethod yX1_pinLevel, Cond.selects RX1 yX1_pinLevel yX1_pinLevel, Cond.code yX1_pinLevel cX1_pinLevel 4 (some .int), Cond.fieldLink RX1 33 "ChipTimers$Channel" "safe" "I", Cond.fieldLink RX1 30 "ChipTimers$Channel" "polarity" "I", Cond.methodLink RX1 55 yX1_outputsOn, Cond.instanceMethod yX1_outputsOn, Cond.selects RX1 yX1_outputsOn yX1_outputsOn, Cond.code yX1_outputsOn cX1_outputsOn 2 (some .int), Cond.fieldLink RX1 27 "ChipTimers$Channel" "dead" "I", Cond.methodLink RX7 195 yX5_drive, Cond.instanceMethod yX5_drive, Cond.selects RX5 yX5_drive yX5_drive, Cond.initialized RX5, Cond.code yX5_drive cX5_drive 4 none, Cond.fieldLink RX5 9 "ChipTimers$Pins" "levels" "[I", Cond.fieldLink RX5 15 "ChipTimers$Pins" "entryTicks" "[I", Cond.fieldLink RX5 24 "ChipTimers$Pins" "next" "I", Cond.fieldLink RX5 18 "ChipTimers$Pins" "entryPins" "[I", Cond.fieldLink RX5 21 "ChipTimers$Pins" "entryLevels" "[I", Cond.fieldLink RX5 28 "ChipTimers$Pins" "entries" "I", Cond.methodLink RX5 31 Lib.Math.min.name]
def wsX7_channel_r3 : List Cond := [Cond.static Lib.Math.min.name, Cond.initialized "java/lang/Math", Cond.code Lib.Math.min.name Lib.Math.min.code 2 (some .int)]
def wsX7_channel : List Cond := .code yX7_channel cX7_channel 5 (some .int) :: ((wsX7_channel_r1 ++ (wsX7_channel_r2 ++ wsX7_channel_r3)) ++ wsX70 ++ wsX10 ++ wsX50)
def wsX7_isSetOfOutputs : List Cond := .code yX7_isSetOfOutputs cX7_isSetOfOutputs 1 (some .boolean) :: ([.methodLink RX7 62 yX7_within, .static yX7_within, .initialized RX7, .code yX7_within cX7_within 3 (some .boolean)])
def wsX7_outputs_r1 : List Cond := [Cond.fieldLink RX7 29 "ChipTimers" "channels" "[LChipTimers$Channel;", Cond.methodLink RX7 58 yX7_isOneOf, Cond.static yX7_isOneOf, Cond.initialized RX7, Cond.code yX7_isOneOf cX7_isOneOf 2 (some .boolean), Cond.methodLink RX7 62 yX7_within, Cond.static yX7_within, Cond.code yX7_within cX7_within 3 (some .boolean), Cond.methodLink RX7 110 yX7_isSetOfOutputs, Cond.static yX7_isSetOfOutputs, Cond.code yX7_isSetOfOutputs cX7_isSetOfOutputs 1 (some .boolean), Cond.methodLink RX7 114 yX1_shapeOutputs, Cond.instanceMethod yX1_shapeOutputs, Cond.selects RX1 yX1_shapeOutputs yX1_shapeOutputs, Cond.initialized RX1, Cond.code yX1_shapeOutputs cX1_shapeOutputs 4 none, Cond.fieldLink RX1 27 "ChipTimers$Channel" "dead" "I", Cond.fieldLink RX1 30 "ChipTimers$Channel" "polarity" "I", Cond.fieldLink RX1 33 "ChipTimers$Channel" "safe" "I", Cond.methodLink RX7 107 yX7_workOutPins, Cond.instanceMethod yX7_workOutPins, Cond.selects RX7 yX7_workOutPins yX7_workOutPins, Cond.code yX7_workOutPins cX7_workOutPins 3 none, Cond.fieldLink RX7 42 "ChipTimers" "pins" "LChipTimers$Pins;"]
def wsX7_outputs_r2 : List Cond := [Cond.fieldLink RX7 117 "ChipTimers" "braked" "Z", Cond.fieldLink RX7 103 "ChipTimers" "tickCount" "I", Cond.methodLink RX7 192 yX1_pinLevel, Cond.instanceMethod yX1_pinLevel, Cond.selects RX1 yX1_pinLevel yX1_pinLevel, Cond.code yX1_pinLevel cX1_pinLevel 4 (some .int), Cond.methodLink RX1 55 yX1_outputsOn, Cond.instanceMethod yX1_outputsOn, Cond.selects RX1 yX1_outputsOn yX1_outputsOn, Cond.code yX1_outputsOn cX1_outputsOn 2 (some .int), Cond.fieldLink RX1 9 "ChipTimers$Channel" "mode" "I", Cond.fieldLink RX1 24 "ChipTimers$Channel" "since" "I", Cond.fieldLink RX1 21 "ChipTimers$Channel" "level" "I", Cond.methodLink RX7 195 yX5_drive, Cond.instanceMethod yX5_drive, Cond.selects RX5 yX5_drive yX5_drive, Cond.initialized RX5, Cond.code yX5_drive cX5_drive 4 none, Cond.fieldLink RX5 9 "ChipTimers$Pins" "levels" "[I", Cond.fieldLink RX5 15 "ChipTimers$Pins" "entryTicks" "[I", Cond.fieldLink RX5 24 "ChipTimers$Pins" "next" "I", Cond.fieldLink RX5 18 "ChipTimers$Pins" "entryPins" "[I", Cond.fieldLink RX5 21 "ChipTimers$Pins" "entryLevels" "[I", Cond.fieldLink RX5 28 "ChipTimers$Pins" "entries" "I"]
def wsX7_outputs_r3 : List Cond := [Cond.methodLink RX5 31 Lib.Math.min.name, Cond.static Lib.Math.min.name, Cond.initialized "java/lang/Math", Cond.code Lib.Math.min.name Lib.Math.min.code 2 (some .int)]
def wsX7_outputs : List Cond := .code yX7_outputs cX7_outputs 5 (some .int) :: ((wsX7_outputs_r1 ++ (wsX7_outputs_r2 ++ wsX7_outputs_r3)) ++ wsX70 ++ wsX10 ++ wsX50)
def wsX7_ofChannel : List Cond := .code yX7_ofChannel cX7_ofChannel 3 (some .int) :: ([.fieldLink RX7 29 "ChipTimers" "channels" "[LChipTimers$Channel;", .fieldLink RX7 117 "ChipTimers" "braked" "Z", .methodLink RX7 58 yX7_isOneOf, .static yX7_isOneOf, .initialized RX7, .code yX7_isOneOf cX7_isOneOf 2 (some .boolean), .methodLink RX7 121 yX1_tell, .instanceMethod yX1_tell, .selects RX1 yX1_tell yX1_tell, .initialized RX1, .code yX1_tell cX1_tell 3 (some .int), .fieldLink RX1 15 "ChipTimers$Channel" "counter" "I", .fieldLink RX1 9 "ChipTimers$Channel" "mode" "I", .fieldLink RX1 18 "ChipTimers$Channel" "mark" "I", .fieldLink RX1 21 "ChipTimers$Channel" "level" "I", .fieldLink RX1 24 "ChipTimers$Channel" "since" "I", .fieldLink RX1 27 "ChipTimers$Channel" "dead" "I", .fieldLink RX1 30 "ChipTimers$Channel" "polarity" "I", .fieldLink RX1 33 "ChipTimers$Channel" "safe" "I", .methodLink RX1 55 yX1_outputsOn, .instanceMethod yX1_outputsOn, .selects RX1 yX1_outputsOn yX1_outputsOn, .code yX1_outputsOn cX1_outputsOn 2 (some .int)] ++ wsX70 ++ wsX10)
def wsX7_pin : List Cond := .code yX7_pin cX7_pin 2 (some .int) :: ([.fieldLink RX7 42 "ChipTimers" "pins" "LChipTimers$Pins;", .fieldLink RX7 124 "ChipTimers$Pins" "levels" "[I", .methodLink RX7 58 yX7_isOneOf, .static yX7_isOneOf, .initialized RX7, .code yX7_isOneOf cX7_isOneOf 2 (some .boolean)] ++ wsX70 ++ wsX50)
def wsX7_brake_r1 : List Cond := [Cond.fieldLink RX7 117 "ChipTimers" "braked" "Z", Cond.methodLink RX7 107 yX7_workOutPins, Cond.instanceMethod yX7_workOutPins, Cond.selects RX7 yX7_workOutPins yX7_workOutPins, Cond.initialized RX7, Cond.code yX7_workOutPins cX7_workOutPins 3 none, Cond.fieldLink RX7 42 "ChipTimers" "pins" "LChipTimers$Pins;", Cond.fieldLink RX7 29 "ChipTimers" "channels" "[LChipTimers$Channel;", Cond.fieldLink RX7 103 "ChipTimers" "tickCount" "I", Cond.methodLink RX7 192 yX1_pinLevel, Cond.instanceMethod yX1_pinLevel, Cond.selects RX1 yX1_pinLevel yX1_pinLevel, Cond.initialized RX1, Cond.code yX1_pinLevel cX1_pinLevel 4 (some .int), Cond.fieldLink RX1 33 "ChipTimers$Channel" "safe" "I", Cond.fieldLink RX1 30 "ChipTimers$Channel" "polarity" "I", Cond.methodLink RX1 55 yX1_outputsOn, Cond.instanceMethod yX1_outputsOn, Cond.selects RX1 yX1_outputsOn yX1_outputsOn, Cond.code yX1_outputsOn cX1_outputsOn 2 (some .int), Cond.fieldLink RX1 9 "ChipTimers$Channel" "mode" "I", Cond.fieldLink RX1 24 "ChipTimers$Channel" "since" "I", Cond.fieldLink RX1 27 "ChipTimers$Channel" "dead" "I", Cond.fieldLink RX1 21 "ChipTimers$Channel" "level" "I"]
def wsX7_brake_r2 : List Cond := [Cond.methodLink RX7 195 yX5_drive, Cond.instanceMethod yX5_drive, Cond.selects RX5 yX5_drive yX5_drive, Cond.initialized RX5, Cond.code yX5_drive cX5_drive 4 none, Cond.fieldLink RX5 9 "ChipTimers$Pins" "levels" "[I", Cond.fieldLink RX5 15 "ChipTimers$Pins" "entryTicks" "[I", Cond.fieldLink RX5 24 "ChipTimers$Pins" "next" "I", Cond.fieldLink RX5 18 "ChipTimers$Pins" "entryPins" "[I", Cond.fieldLink RX5 21 "ChipTimers$Pins" "entryLevels" "[I", Cond.fieldLink RX5 28 "ChipTimers$Pins" "entries" "I", Cond.methodLink RX5 31 Lib.Math.min.name, Cond.static Lib.Math.min.name, Cond.initialized "java/lang/Math", Cond.code Lib.Math.min.name Lib.Math.min.code 2 (some .int)]
def wsX7_brake : List Cond := .code yX7_brake cX7_brake 2 (some .int) :: ((wsX7_brake_r1 ++ wsX7_brake_r2) ++ wsX70 ++ wsX10 ++ wsX50)
def wsX7_arm_r1 : List Cond := [Cond.fieldLink RX7 117 "ChipTimers" "braked" "Z", Cond.methodLink RX7 107 yX7_workOutPins, Cond.instanceMethod yX7_workOutPins, Cond.selects RX7 yX7_workOutPins yX7_workOutPins, Cond.initialized RX7, Cond.code yX7_workOutPins cX7_workOutPins 3 none, Cond.fieldLink RX7 42 "ChipTimers" "pins" "LChipTimers$Pins;", Cond.fieldLink RX7 29 "ChipTimers" "channels" "[LChipTimers$Channel;", Cond.fieldLink RX7 103 "ChipTimers" "tickCount" "I", Cond.methodLink RX7 192 yX1_pinLevel, Cond.instanceMethod yX1_pinLevel, Cond.selects RX1 yX1_pinLevel yX1_pinLevel, Cond.initialized RX1, Cond.code yX1_pinLevel cX1_pinLevel 4 (some .int), Cond.fieldLink RX1 33 "ChipTimers$Channel" "safe" "I", Cond.fieldLink RX1 30 "ChipTimers$Channel" "polarity" "I", Cond.methodLink RX1 55 yX1_outputsOn, Cond.instanceMethod yX1_outputsOn, Cond.selects RX1 yX1_outputsOn yX1_outputsOn, Cond.code yX1_outputsOn cX1_outputsOn 2 (some .int), Cond.fieldLink RX1 9 "ChipTimers$Channel" "mode" "I", Cond.fieldLink RX1 24 "ChipTimers$Channel" "since" "I", Cond.fieldLink RX1 27 "ChipTimers$Channel" "dead" "I", Cond.fieldLink RX1 21 "ChipTimers$Channel" "level" "I"]
def wsX7_arm_r2 : List Cond := [Cond.methodLink RX7 195 yX5_drive, Cond.instanceMethod yX5_drive, Cond.selects RX5 yX5_drive yX5_drive, Cond.initialized RX5, Cond.code yX5_drive cX5_drive 4 none, Cond.fieldLink RX5 9 "ChipTimers$Pins" "levels" "[I", Cond.fieldLink RX5 15 "ChipTimers$Pins" "entryTicks" "[I", Cond.fieldLink RX5 24 "ChipTimers$Pins" "next" "I", Cond.fieldLink RX5 18 "ChipTimers$Pins" "entryPins" "[I", Cond.fieldLink RX5 21 "ChipTimers$Pins" "entryLevels" "[I", Cond.fieldLink RX5 28 "ChipTimers$Pins" "entries" "I", Cond.methodLink RX5 31 Lib.Math.min.name, Cond.static Lib.Math.min.name, Cond.initialized "java/lang/Math", Cond.code Lib.Math.min.name Lib.Math.min.code 2 (some .int)]
def wsX7_arm : List Cond := .code yX7_arm cX7_arm 2 (some .int) :: ((wsX7_arm_r1 ++ wsX7_arm_r2) ++ wsX70 ++ wsX10 ++ wsX50)
def wsX7_record : List Cond := .code yX7_record cX7_record 3 (some .int) :: ([.fieldLink RX7 42 "ChipTimers" "pins" "LChipTimers$Pins;", .methodLink RX7 58 yX7_isOneOf, .static yX7_isOneOf, .initialized RX7, .code yX7_isOneOf cX7_isOneOf 2 (some .boolean), .methodLink RX7 128 yX5_tell, .instanceMethod yX5_tell, .selects RX5 yX5_tell yX5_tell, .initialized RX5, .code yX5_tell cX5_tell 4 (some .int), .fieldLink RX5 28 "ChipTimers$Pins" "entries" "I", .fieldLink RX5 24 "ChipTimers$Pins" "next" "I", .fieldLink RX5 15 "ChipTimers$Pins" "entryTicks" "[I", .fieldLink RX5 18 "ChipTimers$Pins" "entryPins" "[I", .fieldLink RX5 21 "ChipTimers$Pins" "entryLevels" "[I", .static yX7_within, .code yX7_within cX7_within 3 (some .boolean)] ++ wsX70 ++ wsX50)
def wsX7_holds : List Cond := .code yX7_holds cX7_holds 4 (some .int) :: ([.fieldLink RX7 35 "ChipTimers" "pairs" "[LChipTimers$Pair;", .fieldLink RX7 131 "ChipTimers$Pair" "holding" "I", .fieldLink RX7 134 "ChipTimers$Pair" "held" "I", .methodLink RX7 58 yX7_isOneOf, .static yX7_isOneOf, .initialized RX7, .code yX7_isOneOf cX7_isOneOf 2 (some .boolean), .methodLink RX7 62 yX7_within, .static yX7_within, .code yX7_within cX7_within 3 (some .boolean)] ++ wsX70 ++ wsX40)
def wsX7_isWhole : List Cond := .code yX7_isWhole cX7_isWhole 4 (some .boolean) :: ([.fieldLink RX7 11 "ChipTimers" "counters" "[LChipTimers$Counter;", .fieldLink RX7 70 "ChipTimers$Counter" "source" "I", .fieldLink RX7 198 "ChipTimers$Counter" "share" "I", .fieldLink RX7 201 "ChipTimers$Counter" "mode" "I"] ++ wsX70 ++ wsX20)
def wsX7_read_r1 : List Cond := [Cond.fieldLink RX7 11 "ChipTimers" "counters" "[LChipTimers$Counter;", Cond.fieldLink RX7 77 "ChipTimers$Counter" "count" "I", Cond.fieldLink RX7 35 "ChipTimers" "pairs" "[LChipTimers$Pair;", Cond.fieldLink RX7 134 "ChipTimers$Pair" "held" "I", Cond.methodLink RX7 58 yX7_isOneOf, Cond.static yX7_isOneOf, Cond.initialized RX7, Cond.code yX7_isOneOf cX7_isOneOf 2 (some .boolean), Cond.methodLink RX7 62 yX7_within, Cond.static yX7_within, Cond.code yX7_within cX7_within 3 (some .boolean), Cond.methodLink RX7 137 yX7_isWhole, Cond.instanceMethod yX7_isWhole, Cond.selects RX7 yX7_isWhole yX7_isWhole, Cond.code yX7_isWhole cX7_isWhole 4 (some .boolean), Cond.fieldLink RX7 70 "ChipTimers$Counter" "source" "I", Cond.fieldLink RX7 198 "ChipTimers$Counter" "share" "I", Cond.fieldLink RX7 201 "ChipTimers$Counter" "mode" "I", Cond.methodLink RX7 140 yX4_takeHigh, Cond.instanceMethod yX4_takeHigh, Cond.selects RX4 yX4_takeHigh yX4_takeHigh, Cond.initialized RX4, Cond.code yX4_takeHigh cX4_takeHigh 3 (some .int), Cond.fieldLink RX4 15 "ChipTimers$Pair" "holding" "I"]
def wsX7_read_r2 : List Cond := [Cond.fieldLink RX4 9 "ChipTimers$Pair" "held" "I"]
def wsX7_read : List Cond := .code yX7_read cX7_read 4 (some .int) :: ((wsX7_read_r1 ++ wsX7_read_r2) ++ wsX70 ++ wsX20 ++ wsX40)
def wsX7_wide : List Cond := .code yX7_wide cX7_wide 4 (some .int) :: ([.fieldLink RX7 11 "ChipTimers" "counters" "[LChipTimers$Counter;", .fieldLink RX7 77 "ChipTimers$Counter" "count" "I", .fieldLink RX7 74 "ChipTimers$Counter" "top" "I", .methodLink RX7 58 yX7_isOneOf, .static yX7_isOneOf, .initialized RX7, .code yX7_isOneOf cX7_isOneOf 2 (some .boolean), .methodLink RX7 137 yX7_isWhole, .instanceMethod yX7_isWhole, .selects RX7 yX7_isWhole yX7_isWhole, .code yX7_isWhole cX7_isWhole 4 (some .boolean), .fieldLink RX7 70 "ChipTimers$Counter" "source" "I", .fieldLink RX7 198 "ChipTimers$Counter" "share" "I", .fieldLink RX7 201 "ChipTimers$Counter" "mode" "I"] ++ wsX70 ++ wsX20)
def wsX7_slow : List Cond := .code yX7_slow cX7_slow 4 (some .int) :: ([.fieldLink RX7 49 "ChipTimers" "slowClock" "LChipTimers$SlowClock;", .methodLink RX7 58 yX7_isOneOf, .static yX7_isOneOf, .initialized RX7, .code yX7_isOneOf cX7_isOneOf 2 (some .boolean), .methodLink RX7 62 yX7_within, .static yX7_within, .code yX7_within cX7_within 3 (some .boolean), .methodLink RX7 143 yX6_setUp, .instanceMethod yX6_setUp, .selects RX6 yX6_setUp yX6_setUp, .initialized RX6, .code yX6_setUp cX6_setUp 4 none, .fieldLink RX6 9 "ChipTimers$SlowClock" "period" "I", .fieldLink RX6 18 "ChipTimers$SlowClock" "counter" "I", .fieldLink RX6 15 "ChipTimers$SlowClock" "how" "I", .fieldLink RX6 21 "ChipTimers$SlowClock" "first" "I", .fieldLink RX6 24 "ChipTimers$SlowClock" "second" "I"] ++ wsX70 ++ wsX60)
def wsX7_crossed : List Cond := .code yX7_crossed cX7_crossed 2 (some .int) :: ([.fieldLink RX7 49 "ChipTimers" "slowClock" "LChipTimers$SlowClock;", .methodLink RX7 144 yX6_tell, .instanceMethod yX6_tell, .selects RX6 yX6_tell yX6_tell, .initialized RX6, .code yX6_tell cX6_tell 2 (some .int), .fieldLink RX6 21 "ChipTimers$SlowClock" "first" "I", .fieldLink RX6 24 "ChipTimers$SlowClock" "second" "I", .fieldLink RX6 9 "ChipTimers$SlowClock" "period" "I", .fieldLink RX6 18 "ChipTimers$SlowClock" "counter" "I", .fieldLink RX6 15 "ChipTimers$SlowClock" "how" "I"] ++ wsX70 ++ wsX60)
def wsJ6_bitCount_0f7a4 : List Cond := .code yJ6_bitCount_0f7a4 cJ6_bitCount_0f7a4 1 (some .int) :: ([.constant RJ6 265 (1431655765), .constant RJ6 266 (858993459), .constant RJ6 267 (252645135)])
def wsX7_outputsOn : List Cond := .code yX7_outputsOn cX7_outputsOn 3 (some .int) :: ([.fieldLink RX7 29 "ChipTimers" "channels" "[LChipTimers$Channel;", .fieldLink RX7 117 "ChipTimers" "braked" "Z", .methodLink RX7 204 yX1_outputsOn, .instanceMethod yX1_outputsOn, .selects RX1 yX1_outputsOn yX1_outputsOn, .initialized RX1, .code yX1_outputsOn cX1_outputsOn 2 (some .int), .fieldLink RX1 9 "ChipTimers$Channel" "mode" "I", .fieldLink RX1 24 "ChipTimers$Channel" "since" "I", .fieldLink RX1 27 "ChipTimers$Channel" "dead" "I", .fieldLink RX1 21 "ChipTimers$Channel" "level" "I", .methodLink RX7 207 yJ6_bitCount_0f7a4, .static yJ6_bitCount_0f7a4, .initialized RJ6, .code yJ6_bitCount_0f7a4 cJ6_bitCount_0f7a4 1 (some .int), .constant RJ6 265 (1431655765), .constant RJ6 266 (858993459), .constant RJ6 267 (252645135)] ++ wsX70 ++ wsX10)
def wsX7_catchersReady : List Cond := .code yX7_catchersReady cX7_catchersReady 3 (some .int) :: ([.fieldLink RX7 23 "ChipTimers" "catchers" "[LChipTimers$Catcher;", .fieldLink RX7 212 "ChipTimers$Catcher" "ready" "I"] ++ wsX70 ++ wsX00)
def wsX7_oversOfAll : List Cond := .code yX7_oversOfAll cX7_oversOfAll 3 (some .int) :: ([.fieldLink RX7 11 "ChipTimers" "counters" "[LChipTimers$Counter;", .fieldLink RX7 215 "ChipTimers$Counter" "overs" "I"] ++ wsX70 ++ wsX20)
def wsX7_many_r1 : List Cond := [Cond.fieldLink RX7 103 "ChipTimers" "tickCount" "I", Cond.fieldLink RX7 117 "ChipTimers" "braked" "Z", Cond.fieldLink RX7 42 "ChipTimers" "pins" "LChipTimers$Pins;", Cond.fieldLink RX7 148 "ChipTimers$Pins" "entries" "I", Cond.methodLink RX7 145 yX7_outputsOn, Cond.instanceMethod yX7_outputsOn, Cond.selects RX7 yX7_outputsOn yX7_outputsOn, Cond.initialized RX7, Cond.code yX7_outputsOn cX7_outputsOn 3 (some .int), Cond.fieldLink RX7 29 "ChipTimers" "channels" "[LChipTimers$Channel;", Cond.methodLink RX7 204 yX1_outputsOn, Cond.instanceMethod yX1_outputsOn, Cond.selects RX1 yX1_outputsOn yX1_outputsOn, Cond.initialized RX1, Cond.code yX1_outputsOn cX1_outputsOn 2 (some .int), Cond.fieldLink RX1 9 "ChipTimers$Channel" "mode" "I", Cond.fieldLink RX1 24 "ChipTimers$Channel" "since" "I", Cond.fieldLink RX1 27 "ChipTimers$Channel" "dead" "I", Cond.fieldLink RX1 21 "ChipTimers$Channel" "level" "I", Cond.methodLink RX7 207 yJ6_bitCount_0f7a4, Cond.static yJ6_bitCount_0f7a4, Cond.initialized RJ6, Cond.code yJ6_bitCount_0f7a4 cJ6_bitCount_0f7a4 1 (some .int), Cond.constant RJ6 265 (1431655765)]
def wsX7_many_r2 : List Cond := [Cond.constant RJ6 266 (858993459), Cond.constant RJ6 267 (252645135), Cond.methodLink RX7 151 yX7_catchersReady, Cond.instanceMethod yX7_catchersReady, Cond.selects RX7 yX7_catchersReady yX7_catchersReady, Cond.code yX7_catchersReady cX7_catchersReady 3 (some .int), Cond.fieldLink RX7 23 "ChipTimers" "catchers" "[LChipTimers$Catcher;", Cond.fieldLink RX7 212 "ChipTimers$Catcher" "ready" "I", Cond.methodLink RX7 154 yX7_oversOfAll, Cond.instanceMethod yX7_oversOfAll, Cond.selects RX7 yX7_oversOfAll yX7_oversOfAll, Cond.code yX7_oversOfAll cX7_oversOfAll 3 (some .int), Cond.fieldLink RX7 11 "ChipTimers" "counters" "[LChipTimers$Counter;", Cond.fieldLink RX7 215 "ChipTimers$Counter" "overs" "I"]
def wsX7_many : List Cond := .code yX7_many cX7_many 2 (some .int) :: ((wsX7_many_r1 ++ wsX7_many_r2) ++ wsX70 ++ wsX50 ++ wsX10 ++ wsX00 ++ wsX20)
def wsX8_init_r1 : List Cond := [Cond.methodLink RX8 1 objectInit, Cond.instanceMethod objectInit, Cond.code objectInit ⟨#[0xb1]⟩ 1 none, Cond.arrayClass .int, Cond.fieldLink RX8 7 "ChipTimersModel" "modeOf" "[I", Cond.fieldLink RX8 13 "ChipTimersModel" "topOf" "[I", Cond.fieldLink RX8 16 "ChipTimersModel" "shareOf" "[I", Cond.fieldLink RX8 19 "ChipTimersModel" "sourceOf" "[I", Cond.fieldLink RX8 22 "ChipTimersModel" "countOf" "[I", Cond.fieldLink RX8 25 "ChipTimersModel" "phaseOf" "[I", Cond.fieldLink RX8 28 "ChipTimersModel" "wayOf" "[I", Cond.fieldLink RX8 31 "ChipTimersModel" "oversOf" "[I", Cond.fieldLink RX8 34 "ChipTimersModel" "waitsOf" "[I", Cond.arrayClass .boolean, Cond.fieldLink RX8 37 "ChipTimersModel" "hasStepped" "[Z", Cond.fieldLink RX8 41 "ChipTimersModel" "wentOver" "[Z", Cond.fieldLink RX8 44 "ChipTimersModel" "rawOf" "[I", Cond.fieldLink RX8 47 "ChipTimersModel" "steadyOf" "[I", Cond.fieldLink RX8 50 "ChipTimersModel" "filterOf" "[I", Cond.fieldLink RX8 53 "ChipTimersModel" "runOf" "[I", Cond.fieldLink RX8 56 "ChipTimersModel" "edgeOf" "[I", Cond.fieldLink RX8 59 "ChipTimersModel" "catches" "[I", Cond.fieldLink RX8 62 "ChipTimersModel" "edgesOf" "[I", Cond.fieldLink RX8 65 "ChipTimersModel" "everyOf" "[I"]
def wsX8_init_r2 : List Cond := [Cond.fieldLink RX8 68 "ChipTimersModel" "seenOf" "[I", Cond.fieldLink RX8 71 "ChipTimersModel" "valueOf" "[I", Cond.fieldLink RX8 74 "ChipTimersModel" "readyOf" "[I", Cond.fieldLink RX8 77 "ChipTimersModel" "missedOf" "[I", Cond.fieldLink RX8 80 "ChipTimersModel" "comparesTo" "[I", Cond.fieldLink RX8 83 "ChipTimersModel" "kindOf" "[I", Cond.fieldLink RX8 86 "ChipTimersModel" "markOf" "[I", Cond.fieldLink RX8 89 "ChipTimersModel" "levelOf" "[I", Cond.fieldLink RX8 92 "ChipTimersModel" "sinceOf" "[I", Cond.fieldLink RX8 95 "ChipTimersModel" "deadOf" "[I", Cond.fieldLink RX8 98 "ChipTimersModel" "polarityOf" "[I", Cond.fieldLink RX8 101 "ChipTimersModel" "safeOf" "[I", Cond.fieldLink RX8 104 "ChipTimersModel" "pinLevel" "[I", Cond.fieldLink RX8 107 "ChipTimersModel" "entryTick" "[I", Cond.fieldLink RX8 110 "ChipTimersModel" "entryPin" "[I", Cond.fieldLink RX8 113 "ChipTimersModel" "entryLevel" "[I", Cond.fieldLink RX8 116 "ChipTimersModel" "isHolding" "[Z", Cond.fieldLink RX8 119 "ChipTimersModel" "heldBy" "[I", Cond.fieldLink RX8 122 "ChipTimersModel" "period" "I"]
def wsX8_init : List Cond := .code yX8_init cX8_init 2 none :: ((wsX8_init_r1 ++ wsX8_init_r2) ++ wsX80)
def wsX8_within : List Cond := .code yX8_within cX8_within 3 (some .boolean) :: ([])
def wsX8_isOne : List Cond := .code yX8_isOne cX8_isOne 1 (some .boolean) :: ([.methodLink RX8 126 yX8_within, .static yX8_within, .initialized RX8, .code yX8_within cX8_within 3 (some .boolean)])
def wsX8_counter : List Cond := .code yX8_counter cX8_counter 5 (some .int) :: ([.fieldLink RX8 7 "ChipTimersModel" "modeOf" "[I", .fieldLink RX8 13 "ChipTimersModel" "topOf" "[I", .fieldLink RX8 16 "ChipTimersModel" "shareOf" "[I", .fieldLink RX8 22 "ChipTimersModel" "countOf" "[I", .fieldLink RX8 25 "ChipTimersModel" "phaseOf" "[I", .fieldLink RX8 31 "ChipTimersModel" "oversOf" "[I", .fieldLink RX8 28 "ChipTimersModel" "wayOf" "[I", .fieldLink RX8 34 "ChipTimersModel" "waitsOf" "[I", .methodLink RX8 130 yX8_isOne, .static yX8_isOne, .initialized RX8, .code yX8_isOne cX8_isOne 1 (some .boolean), .methodLink RX8 126 yX8_within, .static yX8_within, .code yX8_within cX8_within 3 (some .boolean)] ++ wsX80)
def wsX8_source : List Cond := .code yX8_source cX8_source 4 (some .int) :: ([.fieldLink RX8 19 "ChipTimersModel" "sourceOf" "[I", .methodLink RX8 130 yX8_isOne, .static yX8_isOne, .initialized RX8, .code yX8_isOne cX8_isOne 1 (some .boolean), .methodLink RX8 126 yX8_within, .static yX8_within, .code yX8_within cX8_within 3 (some .boolean)] ++ wsX80)
def wsX8_count : List Cond := .code yX8_count cX8_count 4 (some .int) :: ([.fieldLink RX8 13 "ChipTimersModel" "topOf" "[I", .fieldLink RX8 22 "ChipTimersModel" "countOf" "[I", .methodLink RX8 130 yX8_isOne, .static yX8_isOne, .initialized RX8, .code yX8_isOne cX8_isOne 1 (some .boolean), .methodLink RX8 126 yX8_within, .static yX8_within, .code yX8_within cX8_within 3 (some .boolean)] ++ wsX80)
def wsX8_top : List Cond := .code yX8_top cX8_top 3 (some .int) :: ([.fieldLink RX8 34 "ChipTimersModel" "waitsOf" "[I", .fieldLink RX8 13 "ChipTimersModel" "topOf" "[I", .methodLink RX8 130 yX8_isOne, .static yX8_isOne, .initialized RX8, .code yX8_isOne cX8_isOne 1 (some .boolean), .methodLink RX8 126 yX8_within, .static yX8_within, .code yX8_within cX8_within 3 (some .boolean)] ++ wsX80)
def wsX8_ofCounter : List Cond := .code yX8_ofCounter cX8_ofCounter 3 (some .int) :: ([.fieldLink RX8 22 "ChipTimersModel" "countOf" "[I", .fieldLink RX8 13 "ChipTimersModel" "topOf" "[I", .fieldLink RX8 7 "ChipTimersModel" "modeOf" "[I", .fieldLink RX8 16 "ChipTimersModel" "shareOf" "[I", .fieldLink RX8 19 "ChipTimersModel" "sourceOf" "[I", .fieldLink RX8 25 "ChipTimersModel" "phaseOf" "[I", .fieldLink RX8 28 "ChipTimersModel" "wayOf" "[I", .fieldLink RX8 31 "ChipTimersModel" "oversOf" "[I", .fieldLink RX8 34 "ChipTimersModel" "waitsOf" "[I", .methodLink RX8 130 yX8_isOne, .static yX8_isOne, .initialized RX8, .code yX8_isOne cX8_isOne 1 (some .boolean), .methodLink RX8 126 yX8_within, .static yX8_within, .code yX8_within cX8_within 3 (some .boolean)] ++ wsX80)
def wsX8_hasPulse : List Cond := .code yX8_hasPulse cX8_hasPulse 2 (some .boolean) :: ([.fieldLink RX8 19 "ChipTimersModel" "sourceOf" "[I", .fieldLink RX8 41 "ChipTimersModel" "wentOver" "[Z", .fieldLink RX8 56 "ChipTimersModel" "edgeOf" "[I"] ++ wsX80)
def wsX8_goesOver : List Cond := .code yX8_goesOver cX8_goesOver 2 none :: ([.fieldLink RX8 41 "ChipTimersModel" "wentOver" "[Z", .fieldLink RX8 31 "ChipTimersModel" "oversOf" "[I"] ++ wsX80)
def wsX8_takesTop : List Cond := .code yX8_takesTop cX8_takesTop 2 none :: ([.fieldLink RX8 13 "ChipTimersModel" "topOf" "[I", .fieldLink RX8 34 "ChipTimersModel" "waitsOf" "[I"] ++ wsX80)
def wsX8_stepsUp : List Cond := .code yX8_stepsUp cX8_stepsUp 2 none :: ([.fieldLink RX8 22 "ChipTimersModel" "countOf" "[I", .fieldLink RX8 13 "ChipTimersModel" "topOf" "[I", .methodLink RX8 134 yX8_goesOver, .instanceMethod yX8_goesOver, .selects RX8 yX8_goesOver yX8_goesOver, .initialized RX8, .code yX8_goesOver cX8_goesOver 2 none, .fieldLink RX8 41 "ChipTimersModel" "wentOver" "[Z", .fieldLink RX8 31 "ChipTimersModel" "oversOf" "[I", .methodLink RX8 138 yX8_takesTop, .instanceMethod yX8_takesTop, .selects RX8 yX8_takesTop yX8_takesTop, .code yX8_takesTop cX8_takesTop 2 none, .fieldLink RX8 34 "ChipTimersModel" "waitsOf" "[I"] ++ wsX80)
def wsX8_stepsDown : List Cond := .code yX8_stepsDown cX8_stepsDown 2 none :: ([.fieldLink RX8 22 "ChipTimersModel" "countOf" "[I", .fieldLink RX8 13 "ChipTimersModel" "topOf" "[I", .methodLink RX8 134 yX8_goesOver, .instanceMethod yX8_goesOver, .selects RX8 yX8_goesOver yX8_goesOver, .initialized RX8, .code yX8_goesOver cX8_goesOver 2 none, .fieldLink RX8 41 "ChipTimersModel" "wentOver" "[Z", .fieldLink RX8 31 "ChipTimersModel" "oversOf" "[I", .methodLink RX8 138 yX8_takesTop, .instanceMethod yX8_takesTop, .selects RX8 yX8_takesTop yX8_takesTop, .code yX8_takesTop cX8_takesTop 2 none, .fieldLink RX8 34 "ChipTimersModel" "waitsOf" "[I"] ++ wsX80)
def wsX8_stepsBoth : List Cond := .code yX8_stepsBoth cX8_stepsBoth 2 none :: ([.fieldLink RX8 28 "ChipTimersModel" "wayOf" "[I", .fieldLink RX8 22 "ChipTimersModel" "countOf" "[I", .fieldLink RX8 13 "ChipTimersModel" "topOf" "[I", .methodLink RX8 134 yX8_goesOver, .instanceMethod yX8_goesOver, .selects RX8 yX8_goesOver yX8_goesOver, .initialized RX8, .code yX8_goesOver cX8_goesOver 2 none, .fieldLink RX8 41 "ChipTimersModel" "wentOver" "[Z", .fieldLink RX8 31 "ChipTimersModel" "oversOf" "[I", .methodLink RX8 138 yX8_takesTop, .instanceMethod yX8_takesTop, .selects RX8 yX8_takesTop yX8_takesTop, .code yX8_takesTop cX8_takesTop 2 none, .fieldLink RX8 34 "ChipTimersModel" "waitsOf" "[I"] ++ wsX80)
def wsX8_steps_r1 : List Cond := [Cond.fieldLink RX8 37 "ChipTimersModel" "hasStepped" "[Z", Cond.fieldLink RX8 7 "ChipTimersModel" "modeOf" "[I", Cond.methodLink RX8 141 yX8_stepsUp, Cond.instanceMethod yX8_stepsUp, Cond.selects RX8 yX8_stepsUp yX8_stepsUp, Cond.initialized RX8, Cond.code yX8_stepsUp cX8_stepsUp 2 none, Cond.fieldLink RX8 22 "ChipTimersModel" "countOf" "[I", Cond.fieldLink RX8 13 "ChipTimersModel" "topOf" "[I", Cond.methodLink RX8 134 yX8_goesOver, Cond.instanceMethod yX8_goesOver, Cond.selects RX8 yX8_goesOver yX8_goesOver, Cond.code yX8_goesOver cX8_goesOver 2 none, Cond.fieldLink RX8 41 "ChipTimersModel" "wentOver" "[Z", Cond.fieldLink RX8 31 "ChipTimersModel" "oversOf" "[I", Cond.methodLink RX8 138 yX8_takesTop, Cond.instanceMethod yX8_takesTop, Cond.selects RX8 yX8_takesTop yX8_takesTop, Cond.code yX8_takesTop cX8_takesTop 2 none, Cond.fieldLink RX8 34 "ChipTimersModel" "waitsOf" "[I", Cond.methodLink RX8 144 yX8_stepsDown, Cond.instanceMethod yX8_stepsDown, Cond.selects RX8 yX8_stepsDown yX8_stepsDown, Cond.code yX8_stepsDown cX8_stepsDown 2 none]
def wsX8_steps_r2 : List Cond := [Cond.methodLink RX8 147 yX8_stepsBoth, Cond.instanceMethod yX8_stepsBoth, Cond.selects RX8 yX8_stepsBoth yX8_stepsBoth, Cond.code yX8_stepsBoth cX8_stepsBoth 2 none, Cond.fieldLink RX8 28 "ChipTimersModel" "wayOf" "[I"]
def wsX8_steps : List Cond := .code yX8_steps cX8_steps 2 none :: ((wsX8_steps_r1 ++ wsX8_steps_r2) ++ wsX80)
def wsX8_counters_r1 : List Cond := [Cond.fieldLink RX8 37 "ChipTimersModel" "hasStepped" "[Z", Cond.fieldLink RX8 41 "ChipTimersModel" "wentOver" "[Z", Cond.fieldLink RX8 25 "ChipTimersModel" "phaseOf" "[I", Cond.fieldLink RX8 16 "ChipTimersModel" "shareOf" "[I", Cond.methodLink RX8 150 yX8_hasPulse, Cond.instanceMethod yX8_hasPulse, Cond.selects RX8 yX8_hasPulse yX8_hasPulse, Cond.initialized RX8, Cond.code yX8_hasPulse cX8_hasPulse 2 (some .boolean), Cond.fieldLink RX8 19 "ChipTimersModel" "sourceOf" "[I", Cond.fieldLink RX8 56 "ChipTimersModel" "edgeOf" "[I", Cond.methodLink RX8 153 yX8_steps, Cond.instanceMethod yX8_steps, Cond.selects RX8 yX8_steps yX8_steps, Cond.code yX8_steps cX8_steps 2 none, Cond.fieldLink RX8 7 "ChipTimersModel" "modeOf" "[I", Cond.methodLink RX8 141 yX8_stepsUp, Cond.instanceMethod yX8_stepsUp, Cond.selects RX8 yX8_stepsUp yX8_stepsUp, Cond.code yX8_stepsUp cX8_stepsUp 2 none, Cond.fieldLink RX8 22 "ChipTimersModel" "countOf" "[I", Cond.fieldLink RX8 13 "ChipTimersModel" "topOf" "[I", Cond.methodLink RX8 134 yX8_goesOver, Cond.instanceMethod yX8_goesOver]
def wsX8_counters_r2 : List Cond := [Cond.selects RX8 yX8_goesOver yX8_goesOver, Cond.code yX8_goesOver cX8_goesOver 2 none, Cond.fieldLink RX8 31 "ChipTimersModel" "oversOf" "[I", Cond.methodLink RX8 138 yX8_takesTop, Cond.instanceMethod yX8_takesTop, Cond.selects RX8 yX8_takesTop yX8_takesTop, Cond.code yX8_takesTop cX8_takesTop 2 none, Cond.fieldLink RX8 34 "ChipTimersModel" "waitsOf" "[I", Cond.methodLink RX8 144 yX8_stepsDown, Cond.instanceMethod yX8_stepsDown, Cond.selects RX8 yX8_stepsDown yX8_stepsDown, Cond.code yX8_stepsDown cX8_stepsDown 2 none, Cond.methodLink RX8 147 yX8_stepsBoth, Cond.instanceMethod yX8_stepsBoth, Cond.selects RX8 yX8_stepsBoth yX8_stepsBoth, Cond.code yX8_stepsBoth cX8_stepsBoth 2 none, Cond.fieldLink RX8 28 "ChipTimersModel" "wayOf" "[I"]
def wsX8_counters : List Cond := .code yX8_counters cX8_counters 2 none :: ((wsX8_counters_r1 ++ wsX8_counters_r2) ++ wsX80)
def wsX8_input : List Cond := .code yX8_input cX8_input 4 (some .int) :: ([.fieldLink RX8 44 "ChipTimersModel" "rawOf" "[I", .methodLink RX8 130 yX8_isOne, .static yX8_isOne, .initialized RX8, .code yX8_isOne cX8_isOne 1 (some .boolean), .methodLink RX8 126 yX8_within, .static yX8_within, .code yX8_within cX8_within 3 (some .boolean)] ++ wsX80)
def wsX8_filter : List Cond := .code yX8_filter cX8_filter 4 (some .int) :: ([.fieldLink RX8 50 "ChipTimersModel" "filterOf" "[I", .methodLink RX8 130 yX8_isOne, .static yX8_isOne, .initialized RX8, .code yX8_isOne cX8_isOne 1 (some .boolean), .methodLink RX8 126 yX8_within, .static yX8_within, .code yX8_within cX8_within 3 (some .boolean)] ++ wsX80)
def wsX8_ofInput : List Cond := .code yX8_ofInput cX8_ofInput 3 (some .int) :: ([.fieldLink RX8 44 "ChipTimersModel" "rawOf" "[I", .fieldLink RX8 47 "ChipTimersModel" "steadyOf" "[I", .fieldLink RX8 53 "ChipTimersModel" "runOf" "[I", .fieldLink RX8 50 "ChipTimersModel" "filterOf" "[I", .methodLink RX8 130 yX8_isOne, .static yX8_isOne, .initialized RX8, .code yX8_isOne cX8_isOne 1 (some .boolean), .methodLink RX8 126 yX8_within, .static yX8_within, .code yX8_within cX8_within 3 (some .boolean)] ++ wsX80)
def wsX8_inputs : List Cond := .code yX8_inputs cX8_inputs 2 none :: ([.fieldLink RX8 56 "ChipTimersModel" "edgeOf" "[I", .fieldLink RX8 53 "ChipTimersModel" "runOf" "[I", .fieldLink RX8 44 "ChipTimersModel" "rawOf" "[I", .fieldLink RX8 47 "ChipTimersModel" "steadyOf" "[I", .fieldLink RX8 50 "ChipTimersModel" "filterOf" "[I"] ++ wsX80)
def wsX8_catcher : List Cond := .code yX8_catcher cX8_catcher 5 (some .int) :: ([.fieldLink RX8 59 "ChipTimersModel" "catches" "[I", .fieldLink RX8 62 "ChipTimersModel" "edgesOf" "[I", .fieldLink RX8 65 "ChipTimersModel" "everyOf" "[I", .fieldLink RX8 68 "ChipTimersModel" "seenOf" "[I", .fieldLink RX8 71 "ChipTimersModel" "valueOf" "[I", .fieldLink RX8 74 "ChipTimersModel" "readyOf" "[I", .fieldLink RX8 77 "ChipTimersModel" "missedOf" "[I", .methodLink RX8 130 yX8_isOne, .static yX8_isOne, .initialized RX8, .code yX8_isOne cX8_isOne 1 (some .boolean), .methodLink RX8 126 yX8_within, .static yX8_within, .code yX8_within cX8_within 3 (some .boolean)] ++ wsX80)
def wsX8_taken : List Cond := .code yX8_taken cX8_taken 2 (some .int) :: ([.fieldLink RX8 74 "ChipTimersModel" "readyOf" "[I", .fieldLink RX8 71 "ChipTimersModel" "valueOf" "[I", .methodLink RX8 130 yX8_isOne, .static yX8_isOne, .initialized RX8, .code yX8_isOne cX8_isOne 1 (some .boolean), .methodLink RX8 126 yX8_within, .static yX8_within, .code yX8_within cX8_within 3 (some .boolean)] ++ wsX80)
def wsX8_ofCatcher : List Cond := .code yX8_ofCatcher cX8_ofCatcher 3 (some .int) :: ([.fieldLink RX8 59 "ChipTimersModel" "catches" "[I", .fieldLink RX8 62 "ChipTimersModel" "edgesOf" "[I", .fieldLink RX8 65 "ChipTimersModel" "everyOf" "[I", .fieldLink RX8 68 "ChipTimersModel" "seenOf" "[I", .fieldLink RX8 71 "ChipTimersModel" "valueOf" "[I", .fieldLink RX8 74 "ChipTimersModel" "readyOf" "[I", .fieldLink RX8 77 "ChipTimersModel" "missedOf" "[I", .methodLink RX8 130 yX8_isOne, .static yX8_isOne, .initialized RX8, .code yX8_isOne cX8_isOne 1 (some .boolean), .methodLink RX8 126 yX8_within, .static yX8_within, .code yX8_within cX8_within 3 (some .boolean)] ++ wsX80)
def wsX8_catchers : List Cond := .code yX8_catchers cX8_catchers 3 none :: ([.fieldLink RX8 56 "ChipTimersModel" "edgeOf" "[I", .fieldLink RX8 62 "ChipTimersModel" "edgesOf" "[I", .fieldLink RX8 68 "ChipTimersModel" "seenOf" "[I", .fieldLink RX8 65 "ChipTimersModel" "everyOf" "[I", .fieldLink RX8 77 "ChipTimersModel" "missedOf" "[I", .fieldLink RX8 74 "ChipTimersModel" "readyOf" "[I", .fieldLink RX8 71 "ChipTimersModel" "valueOf" "[I", .fieldLink RX8 22 "ChipTimersModel" "countOf" "[I", .fieldLink RX8 59 "ChipTimersModel" "catches" "[I"] ++ wsX80)
def wsX8_levelThen : List Cond := .code yX8_levelThen cX8_levelThen 4 (some .int) :: ([.fieldLink RX8 80 "ChipTimersModel" "comparesTo" "[I", .fieldLink RX8 37 "ChipTimersModel" "hasStepped" "[Z", .fieldLink RX8 22 "ChipTimersModel" "countOf" "[I", .fieldLink RX8 86 "ChipTimersModel" "markOf" "[I", .fieldLink RX8 83 "ChipTimersModel" "kindOf" "[I", .fieldLink RX8 89 "ChipTimersModel" "levelOf" "[I"] ++ wsX80)
def wsX8_channels : List Cond := .code yX8_channels cX8_channels 3 none :: ([.fieldLink RX8 92 "ChipTimersModel" "sinceOf" "[I", .fieldLink RX8 89 "ChipTimersModel" "levelOf" "[I", .methodLink RX8 190 yX8_levelThen, .instanceMethod yX8_levelThen, .selects RX8 yX8_levelThen yX8_levelThen, .initialized RX8, .code yX8_levelThen cX8_levelThen 4 (some .int), .fieldLink RX8 80 "ChipTimersModel" "comparesTo" "[I", .fieldLink RX8 37 "ChipTimersModel" "hasStepped" "[Z", .fieldLink RX8 22 "ChipTimersModel" "countOf" "[I", .fieldLink RX8 86 "ChipTimersModel" "markOf" "[I", .fieldLink RX8 83 "ChipTimersModel" "kindOf" "[I"] ++ wsX80)
def wsX8_twisted : List Cond := .code yX8_twisted cX8_twisted 1 (some .int) :: ([])
def wsX8_untwisted : List Cond := .code yX8_untwisted cX8_untwisted 3 (some .int) :: ([])
def wsX8_sampleOf : List Cond := .code yX8_sampleOf cX8_sampleOf 3 (some .int) :: ([.fieldLink RX8 224 "ChipTimersModel" "how" "I", .methodLink RX8 227 yX8_twisted, .static yX8_twisted, .initialized RX8, .code yX8_twisted cX8_twisted 1 (some .int), .methodLink RX8 230 yX8_untwisted, .static yX8_untwisted, .code yX8_untwisted cX8_untwisted 3 (some .int)] ++ wsX80)
def wsX8_isOn : List Cond := .code yX8_isOn cX8_isOn 3 (some .boolean) :: ([.fieldLink RX8 83 "ChipTimersModel" "kindOf" "[I", .fieldLink RX8 194 "ChipTimersModel" "isBraked" "Z", .fieldLink RX8 89 "ChipTimersModel" "levelOf" "[I", .fieldLink RX8 92 "ChipTimersModel" "sinceOf" "[I", .fieldLink RX8 95 "ChipTimersModel" "deadOf" "[I"] ++ wsX80)
def wsX8_pinThen : List Cond := .code yX8_pinThen cX8_pinThen 3 (some .int) :: ([.fieldLink RX8 194 "ChipTimersModel" "isBraked" "Z", .fieldLink RX8 101 "ChipTimersModel" "safeOf" "[I", .fieldLink RX8 98 "ChipTimersModel" "polarityOf" "[I", .methodLink RX8 198 yX8_isOn, .instanceMethod yX8_isOn, .selects RX8 yX8_isOn yX8_isOn, .initialized RX8, .code yX8_isOn cX8_isOn 3 (some .boolean), .fieldLink RX8 83 "ChipTimersModel" "kindOf" "[I", .fieldLink RX8 89 "ChipTimersModel" "levelOf" "[I", .fieldLink RX8 92 "ChipTimersModel" "sinceOf" "[I", .fieldLink RX8 95 "ChipTimersModel" "deadOf" "[I"] ++ wsX80)
def wsX8_enters : List Cond := .code yX8_enters cX8_enters 3 none :: ([.fieldLink RX8 202 "ChipTimersModel" "entries" "I", .fieldLink RX8 107 "ChipTimersModel" "entryTick" "[I", .fieldLink RX8 110 "ChipTimersModel" "entryPin" "[I", .fieldLink RX8 113 "ChipTimersModel" "entryLevel" "[I", .fieldLink RX8 159 "ChipTimersModel" "tick" "I", .fieldLink RX8 104 "ChipTimersModel" "pinLevel" "[I"] ++ wsX80)
def wsX8_pins_r1 : List Cond := [Cond.fieldLink RX8 104 "ChipTimersModel" "pinLevel" "[I", Cond.methodLink RX8 205 yX8_pinThen, Cond.instanceMethod yX8_pinThen, Cond.selects RX8 yX8_pinThen yX8_pinThen, Cond.initialized RX8, Cond.code yX8_pinThen cX8_pinThen 3 (some .int), Cond.fieldLink RX8 194 "ChipTimersModel" "isBraked" "Z", Cond.fieldLink RX8 101 "ChipTimersModel" "safeOf" "[I", Cond.fieldLink RX8 98 "ChipTimersModel" "polarityOf" "[I", Cond.methodLink RX8 198 yX8_isOn, Cond.instanceMethod yX8_isOn, Cond.selects RX8 yX8_isOn yX8_isOn, Cond.code yX8_isOn cX8_isOn 3 (some .boolean), Cond.fieldLink RX8 83 "ChipTimersModel" "kindOf" "[I", Cond.fieldLink RX8 89 "ChipTimersModel" "levelOf" "[I", Cond.fieldLink RX8 92 "ChipTimersModel" "sinceOf" "[I", Cond.fieldLink RX8 95 "ChipTimersModel" "deadOf" "[I", Cond.methodLink RX8 208 yX8_enters, Cond.instanceMethod yX8_enters, Cond.selects RX8 yX8_enters yX8_enters, Cond.code yX8_enters cX8_enters 3 none, Cond.fieldLink RX8 202 "ChipTimersModel" "entries" "I", Cond.fieldLink RX8 107 "ChipTimersModel" "entryTick" "[I", Cond.fieldLink RX8 110 "ChipTimersModel" "entryPin" "[I"]
def wsX8_pins_r2 : List Cond := [Cond.fieldLink RX8 113 "ChipTimersModel" "entryLevel" "[I", Cond.fieldLink RX8 159 "ChipTimersModel" "tick" "I"]
def wsX8_pins : List Cond := .code yX8_pins cX8_pins 3 none :: ((wsX8_pins_r1 ++ wsX8_pins_r2) ++ wsX80)
def wsX8_oneTick_r1 : List Cond := [Cond.fieldLink RX8 22 "ChipTimersModel" "countOf" "[I", Cond.fieldLink RX8 156 "ChipTimersModel" "crossed" "I", Cond.fieldLink RX8 159 "ChipTimersModel" "tick" "I", Cond.fieldLink RX8 122 "ChipTimersModel" "period" "I", Cond.fieldLink RX8 174 "ChipTimersModel" "first" "I", Cond.fieldLink RX8 177 "ChipTimersModel" "second" "I", Cond.methodLink RX8 162 yX8_inputs, Cond.instanceMethod yX8_inputs, Cond.selects RX8 yX8_inputs yX8_inputs, Cond.initialized RX8, Cond.code yX8_inputs cX8_inputs 2 none, Cond.fieldLink RX8 56 "ChipTimersModel" "edgeOf" "[I", Cond.fieldLink RX8 53 "ChipTimersModel" "runOf" "[I", Cond.fieldLink RX8 44 "ChipTimersModel" "rawOf" "[I", Cond.fieldLink RX8 47 "ChipTimersModel" "steadyOf" "[I", Cond.fieldLink RX8 50 "ChipTimersModel" "filterOf" "[I", Cond.methodLink RX8 165 yX8_counters, Cond.instanceMethod yX8_counters, Cond.selects RX8 yX8_counters yX8_counters, Cond.code yX8_counters cX8_counters 2 none, Cond.fieldLink RX8 37 "ChipTimersModel" "hasStepped" "[Z", Cond.fieldLink RX8 41 "ChipTimersModel" "wentOver" "[Z", Cond.fieldLink RX8 25 "ChipTimersModel" "phaseOf" "[I", Cond.fieldLink RX8 16 "ChipTimersModel" "shareOf" "[I"]
def wsX8_oneTick_r2 : List Cond := [Cond.methodLink RX8 150 yX8_hasPulse, Cond.instanceMethod yX8_hasPulse, Cond.selects RX8 yX8_hasPulse yX8_hasPulse, Cond.code yX8_hasPulse cX8_hasPulse 2 (some .boolean), Cond.fieldLink RX8 19 "ChipTimersModel" "sourceOf" "[I", Cond.methodLink RX8 153 yX8_steps, Cond.instanceMethod yX8_steps, Cond.selects RX8 yX8_steps yX8_steps, Cond.code yX8_steps cX8_steps 2 none, Cond.fieldLink RX8 7 "ChipTimersModel" "modeOf" "[I", Cond.methodLink RX8 141 yX8_stepsUp, Cond.instanceMethod yX8_stepsUp, Cond.selects RX8 yX8_stepsUp yX8_stepsUp, Cond.code yX8_stepsUp cX8_stepsUp 2 none, Cond.fieldLink RX8 13 "ChipTimersModel" "topOf" "[I", Cond.methodLink RX8 134 yX8_goesOver, Cond.instanceMethod yX8_goesOver, Cond.selects RX8 yX8_goesOver yX8_goesOver, Cond.code yX8_goesOver cX8_goesOver 2 none, Cond.fieldLink RX8 31 "ChipTimersModel" "oversOf" "[I", Cond.methodLink RX8 138 yX8_takesTop, Cond.instanceMethod yX8_takesTop, Cond.selects RX8 yX8_takesTop yX8_takesTop, Cond.code yX8_takesTop cX8_takesTop 2 none]
def wsX8_oneTick_r3 : List Cond := [Cond.fieldLink RX8 34 "ChipTimersModel" "waitsOf" "[I", Cond.methodLink RX8 144 yX8_stepsDown, Cond.instanceMethod yX8_stepsDown, Cond.selects RX8 yX8_stepsDown yX8_stepsDown, Cond.code yX8_stepsDown cX8_stepsDown 2 none, Cond.methodLink RX8 147 yX8_stepsBoth, Cond.instanceMethod yX8_stepsBoth, Cond.selects RX8 yX8_stepsBoth yX8_stepsBoth, Cond.code yX8_stepsBoth cX8_stepsBoth 2 none, Cond.fieldLink RX8 28 "ChipTimersModel" "wayOf" "[I", Cond.methodLink RX8 168 yX8_catchers, Cond.instanceMethod yX8_catchers, Cond.selects RX8 yX8_catchers yX8_catchers, Cond.code yX8_catchers cX8_catchers 3 none, Cond.fieldLink RX8 62 "ChipTimersModel" "edgesOf" "[I", Cond.fieldLink RX8 68 "ChipTimersModel" "seenOf" "[I", Cond.fieldLink RX8 65 "ChipTimersModel" "everyOf" "[I", Cond.fieldLink RX8 77 "ChipTimersModel" "missedOf" "[I", Cond.fieldLink RX8 74 "ChipTimersModel" "readyOf" "[I", Cond.fieldLink RX8 71 "ChipTimersModel" "valueOf" "[I", Cond.fieldLink RX8 59 "ChipTimersModel" "catches" "[I", Cond.methodLink RX8 171 yX8_channels, Cond.instanceMethod yX8_channels, Cond.selects RX8 yX8_channels yX8_channels]
def wsX8_oneTick_r4 : List Cond := [Cond.code yX8_channels cX8_channels 3 none, Cond.fieldLink RX8 92 "ChipTimersModel" "sinceOf" "[I", Cond.fieldLink RX8 89 "ChipTimersModel" "levelOf" "[I", Cond.methodLink RX8 190 yX8_levelThen, Cond.instanceMethod yX8_levelThen, Cond.selects RX8 yX8_levelThen yX8_levelThen, Cond.code yX8_levelThen cX8_levelThen 4 (some .int), Cond.fieldLink RX8 80 "ChipTimersModel" "comparesTo" "[I", Cond.fieldLink RX8 86 "ChipTimersModel" "markOf" "[I", Cond.fieldLink RX8 83 "ChipTimersModel" "kindOf" "[I", Cond.methodLink RX8 180 yX8_sampleOf, Cond.instanceMethod yX8_sampleOf, Cond.selects RX8 yX8_sampleOf yX8_sampleOf, Cond.code yX8_sampleOf cX8_sampleOf 3 (some .int), Cond.fieldLink RX8 224 "ChipTimersModel" "how" "I", Cond.methodLink RX8 227 yX8_twisted, Cond.static yX8_twisted, Cond.code yX8_twisted cX8_twisted 1 (some .int), Cond.methodLink RX8 230 yX8_untwisted, Cond.static yX8_untwisted, Cond.code yX8_untwisted cX8_untwisted 3 (some .int), Cond.methodLink RX8 184 yX8_pins, Cond.instanceMethod yX8_pins, Cond.selects RX8 yX8_pins yX8_pins]
def wsX8_oneTick_r5 : List Cond := [Cond.code yX8_pins cX8_pins 3 none, Cond.fieldLink RX8 104 "ChipTimersModel" "pinLevel" "[I", Cond.methodLink RX8 205 yX8_pinThen, Cond.instanceMethod yX8_pinThen, Cond.selects RX8 yX8_pinThen yX8_pinThen, Cond.code yX8_pinThen cX8_pinThen 3 (some .int), Cond.fieldLink RX8 194 "ChipTimersModel" "isBraked" "Z", Cond.fieldLink RX8 101 "ChipTimersModel" "safeOf" "[I", Cond.fieldLink RX8 98 "ChipTimersModel" "polarityOf" "[I", Cond.methodLink RX8 198 yX8_isOn, Cond.instanceMethod yX8_isOn, Cond.selects RX8 yX8_isOn yX8_isOn, Cond.code yX8_isOn cX8_isOn 3 (some .boolean), Cond.fieldLink RX8 95 "ChipTimersModel" "deadOf" "[I", Cond.methodLink RX8 208 yX8_enters, Cond.instanceMethod yX8_enters, Cond.selects RX8 yX8_enters yX8_enters, Cond.code yX8_enters cX8_enters 3 none, Cond.fieldLink RX8 202 "ChipTimersModel" "entries" "I", Cond.fieldLink RX8 107 "ChipTimersModel" "entryTick" "[I", Cond.fieldLink RX8 110 "ChipTimersModel" "entryPin" "[I", Cond.fieldLink RX8 113 "ChipTimersModel" "entryLevel" "[I"]
def wsX8_oneTick : List Cond := .code yX8_oneTick cX8_oneTick 2 none :: ((wsX8_oneTick_r1 ++ (wsX8_oneTick_r2 ++ (wsX8_oneTick_r3 ++ (wsX8_oneTick_r4 ++ wsX8_oneTick_r5)))) ++ wsX80)
def wsX8_ticks_r1 : List Cond := [Cond.fieldLink RX8 159 "ChipTimersModel" "tick" "I", Cond.methodLink RX8 126 yX8_within, Cond.static yX8_within, Cond.initialized RX8, Cond.code yX8_within cX8_within 3 (some .boolean), Cond.methodLink RX8 187 yX8_oneTick, Cond.instanceMethod yX8_oneTick, Cond.selects RX8 yX8_oneTick yX8_oneTick, Cond.code yX8_oneTick cX8_oneTick 2 none, Cond.fieldLink RX8 22 "ChipTimersModel" "countOf" "[I", Cond.fieldLink RX8 156 "ChipTimersModel" "crossed" "I", Cond.fieldLink RX8 122 "ChipTimersModel" "period" "I", Cond.fieldLink RX8 174 "ChipTimersModel" "first" "I", Cond.fieldLink RX8 177 "ChipTimersModel" "second" "I", Cond.methodLink RX8 162 yX8_inputs, Cond.instanceMethod yX8_inputs, Cond.selects RX8 yX8_inputs yX8_inputs, Cond.code yX8_inputs cX8_inputs 2 none, Cond.fieldLink RX8 56 "ChipTimersModel" "edgeOf" "[I", Cond.fieldLink RX8 53 "ChipTimersModel" "runOf" "[I", Cond.fieldLink RX8 44 "ChipTimersModel" "rawOf" "[I", Cond.fieldLink RX8 47 "ChipTimersModel" "steadyOf" "[I", Cond.fieldLink RX8 50 "ChipTimersModel" "filterOf" "[I", Cond.methodLink RX8 165 yX8_counters]
def wsX8_ticks_r2 : List Cond := [Cond.instanceMethod yX8_counters, Cond.selects RX8 yX8_counters yX8_counters, Cond.code yX8_counters cX8_counters 2 none, Cond.fieldLink RX8 37 "ChipTimersModel" "hasStepped" "[Z", Cond.fieldLink RX8 41 "ChipTimersModel" "wentOver" "[Z", Cond.fieldLink RX8 25 "ChipTimersModel" "phaseOf" "[I", Cond.fieldLink RX8 16 "ChipTimersModel" "shareOf" "[I", Cond.methodLink RX8 150 yX8_hasPulse, Cond.instanceMethod yX8_hasPulse, Cond.selects RX8 yX8_hasPulse yX8_hasPulse, Cond.code yX8_hasPulse cX8_hasPulse 2 (some .boolean), Cond.fieldLink RX8 19 "ChipTimersModel" "sourceOf" "[I", Cond.methodLink RX8 153 yX8_steps, Cond.instanceMethod yX8_steps, Cond.selects RX8 yX8_steps yX8_steps, Cond.code yX8_steps cX8_steps 2 none, Cond.fieldLink RX8 7 "ChipTimersModel" "modeOf" "[I", Cond.methodLink RX8 141 yX8_stepsUp, Cond.instanceMethod yX8_stepsUp, Cond.selects RX8 yX8_stepsUp yX8_stepsUp, Cond.code yX8_stepsUp cX8_stepsUp 2 none, Cond.fieldLink RX8 13 "ChipTimersModel" "topOf" "[I", Cond.methodLink RX8 134 yX8_goesOver, Cond.instanceMethod yX8_goesOver]
def wsX8_ticks_r3 : List Cond := [Cond.selects RX8 yX8_goesOver yX8_goesOver, Cond.code yX8_goesOver cX8_goesOver 2 none, Cond.fieldLink RX8 31 "ChipTimersModel" "oversOf" "[I", Cond.methodLink RX8 138 yX8_takesTop, Cond.instanceMethod yX8_takesTop, Cond.selects RX8 yX8_takesTop yX8_takesTop, Cond.code yX8_takesTop cX8_takesTop 2 none, Cond.fieldLink RX8 34 "ChipTimersModel" "waitsOf" "[I", Cond.methodLink RX8 144 yX8_stepsDown, Cond.instanceMethod yX8_stepsDown, Cond.selects RX8 yX8_stepsDown yX8_stepsDown, Cond.code yX8_stepsDown cX8_stepsDown 2 none, Cond.methodLink RX8 147 yX8_stepsBoth, Cond.instanceMethod yX8_stepsBoth, Cond.selects RX8 yX8_stepsBoth yX8_stepsBoth, Cond.code yX8_stepsBoth cX8_stepsBoth 2 none, Cond.fieldLink RX8 28 "ChipTimersModel" "wayOf" "[I", Cond.methodLink RX8 168 yX8_catchers, Cond.instanceMethod yX8_catchers, Cond.selects RX8 yX8_catchers yX8_catchers, Cond.code yX8_catchers cX8_catchers 3 none, Cond.fieldLink RX8 62 "ChipTimersModel" "edgesOf" "[I", Cond.fieldLink RX8 68 "ChipTimersModel" "seenOf" "[I", Cond.fieldLink RX8 65 "ChipTimersModel" "everyOf" "[I"]
def wsX8_ticks_r4 : List Cond := [Cond.fieldLink RX8 77 "ChipTimersModel" "missedOf" "[I", Cond.fieldLink RX8 74 "ChipTimersModel" "readyOf" "[I", Cond.fieldLink RX8 71 "ChipTimersModel" "valueOf" "[I", Cond.fieldLink RX8 59 "ChipTimersModel" "catches" "[I", Cond.methodLink RX8 171 yX8_channels, Cond.instanceMethod yX8_channels, Cond.selects RX8 yX8_channels yX8_channels, Cond.code yX8_channels cX8_channels 3 none, Cond.fieldLink RX8 92 "ChipTimersModel" "sinceOf" "[I", Cond.fieldLink RX8 89 "ChipTimersModel" "levelOf" "[I", Cond.methodLink RX8 190 yX8_levelThen, Cond.instanceMethod yX8_levelThen, Cond.selects RX8 yX8_levelThen yX8_levelThen, Cond.code yX8_levelThen cX8_levelThen 4 (some .int), Cond.fieldLink RX8 80 "ChipTimersModel" "comparesTo" "[I", Cond.fieldLink RX8 86 "ChipTimersModel" "markOf" "[I", Cond.fieldLink RX8 83 "ChipTimersModel" "kindOf" "[I", Cond.methodLink RX8 180 yX8_sampleOf, Cond.instanceMethod yX8_sampleOf, Cond.selects RX8 yX8_sampleOf yX8_sampleOf, Cond.code yX8_sampleOf cX8_sampleOf 3 (some .int), Cond.fieldLink RX8 224 "ChipTimersModel" "how" "I", Cond.methodLink RX8 227 yX8_twisted, Cond.static yX8_twisted]
def wsX8_ticks_r5 : List Cond := [Cond.code yX8_twisted cX8_twisted 1 (some .int), Cond.methodLink RX8 230 yX8_untwisted, Cond.static yX8_untwisted, Cond.code yX8_untwisted cX8_untwisted 3 (some .int), Cond.methodLink RX8 184 yX8_pins, Cond.instanceMethod yX8_pins, Cond.selects RX8 yX8_pins yX8_pins, Cond.code yX8_pins cX8_pins 3 none, Cond.fieldLink RX8 104 "ChipTimersModel" "pinLevel" "[I", Cond.methodLink RX8 205 yX8_pinThen, Cond.instanceMethod yX8_pinThen, Cond.selects RX8 yX8_pinThen yX8_pinThen, Cond.code yX8_pinThen cX8_pinThen 3 (some .int), Cond.fieldLink RX8 194 "ChipTimersModel" "isBraked" "Z", Cond.fieldLink RX8 101 "ChipTimersModel" "safeOf" "[I", Cond.fieldLink RX8 98 "ChipTimersModel" "polarityOf" "[I", Cond.methodLink RX8 198 yX8_isOn, Cond.instanceMethod yX8_isOn, Cond.selects RX8 yX8_isOn yX8_isOn, Cond.code yX8_isOn cX8_isOn 3 (some .boolean), Cond.fieldLink RX8 95 "ChipTimersModel" "deadOf" "[I", Cond.methodLink RX8 208 yX8_enters, Cond.instanceMethod yX8_enters, Cond.selects RX8 yX8_enters yX8_enters]
def wsX8_ticks_r6 : List Cond := [Cond.code yX8_enters cX8_enters 3 none, Cond.fieldLink RX8 202 "ChipTimersModel" "entries" "I", Cond.fieldLink RX8 107 "ChipTimersModel" "entryTick" "[I", Cond.fieldLink RX8 110 "ChipTimersModel" "entryPin" "[I", Cond.fieldLink RX8 113 "ChipTimersModel" "entryLevel" "[I"]
def wsX8_ticks : List Cond := .code yX8_ticks cX8_ticks 3 (some .int) :: ((wsX8_ticks_r1 ++ (wsX8_ticks_r2 ++ (wsX8_ticks_r3 ++ (wsX8_ticks_r4 ++ (wsX8_ticks_r5 ++ wsX8_ticks_r6))))) ++ wsX80)
def wsX8_channel_r1 : List Cond := [Cond.fieldLink RX8 80 "ChipTimersModel" "comparesTo" "[I", Cond.fieldLink RX8 83 "ChipTimersModel" "kindOf" "[I", Cond.fieldLink RX8 86 "ChipTimersModel" "markOf" "[I", Cond.fieldLink RX8 89 "ChipTimersModel" "levelOf" "[I", Cond.fieldLink RX8 92 "ChipTimersModel" "sinceOf" "[I", Cond.methodLink RX8 130 yX8_isOne, Cond.static yX8_isOne, Cond.initialized RX8, Cond.code yX8_isOne cX8_isOne 1 (some .boolean), Cond.methodLink RX8 126 yX8_within, Cond.static yX8_within, Cond.code yX8_within cX8_within 3 (some .boolean), Cond.methodLink RX8 184 yX8_pins, Cond.instanceMethod yX8_pins, Cond.selects RX8 yX8_pins yX8_pins, Cond.code yX8_pins cX8_pins 3 none, Cond.fieldLink RX8 104 "ChipTimersModel" "pinLevel" "[I", Cond.methodLink RX8 205 yX8_pinThen, Cond.instanceMethod yX8_pinThen, Cond.selects RX8 yX8_pinThen yX8_pinThen, Cond.code yX8_pinThen cX8_pinThen 3 (some .int), Cond.fieldLink RX8 194 "ChipTimersModel" "isBraked" "Z", Cond.fieldLink RX8 101 "ChipTimersModel" "safeOf" "[I", Cond.fieldLink RX8 98 "ChipTimersModel" "polarityOf" "[I"]
def wsX8_channel_r2 : List Cond := [Cond.methodLink RX8 198 yX8_isOn, Cond.instanceMethod yX8_isOn, Cond.selects RX8 yX8_isOn yX8_isOn, Cond.code yX8_isOn cX8_isOn 3 (some .boolean), Cond.fieldLink RX8 95 "ChipTimersModel" "deadOf" "[I", Cond.methodLink RX8 208 yX8_enters, Cond.instanceMethod yX8_enters, Cond.selects RX8 yX8_enters yX8_enters, Cond.code yX8_enters cX8_enters 3 none, Cond.fieldLink RX8 202 "ChipTimersModel" "entries" "I", Cond.fieldLink RX8 107 "ChipTimersModel" "entryTick" "[I", Cond.fieldLink RX8 110 "ChipTimersModel" "entryPin" "[I", Cond.fieldLink RX8 113 "ChipTimersModel" "entryLevel" "[I", Cond.fieldLink RX8 159 "ChipTimersModel" "tick" "I"]
def wsX8_channel : List Cond := .code yX8_channel cX8_channel 5 (some .int) :: ((wsX8_channel_r1 ++ wsX8_channel_r2) ++ wsX80)
def wsX8_outputs_r1 : List Cond := [Cond.fieldLink RX8 95 "ChipTimersModel" "deadOf" "[I", Cond.fieldLink RX8 98 "ChipTimersModel" "polarityOf" "[I", Cond.fieldLink RX8 101 "ChipTimersModel" "safeOf" "[I", Cond.methodLink RX8 130 yX8_isOne, Cond.static yX8_isOne, Cond.initialized RX8, Cond.code yX8_isOne cX8_isOne 1 (some .boolean), Cond.methodLink RX8 126 yX8_within, Cond.static yX8_within, Cond.code yX8_within cX8_within 3 (some .boolean), Cond.methodLink RX8 184 yX8_pins, Cond.instanceMethod yX8_pins, Cond.selects RX8 yX8_pins yX8_pins, Cond.code yX8_pins cX8_pins 3 none, Cond.fieldLink RX8 104 "ChipTimersModel" "pinLevel" "[I", Cond.methodLink RX8 205 yX8_pinThen, Cond.instanceMethod yX8_pinThen, Cond.selects RX8 yX8_pinThen yX8_pinThen, Cond.code yX8_pinThen cX8_pinThen 3 (some .int), Cond.fieldLink RX8 194 "ChipTimersModel" "isBraked" "Z", Cond.methodLink RX8 198 yX8_isOn, Cond.instanceMethod yX8_isOn, Cond.selects RX8 yX8_isOn yX8_isOn, Cond.code yX8_isOn cX8_isOn 3 (some .boolean)]
def wsX8_outputs_r2 : List Cond := [Cond.fieldLink RX8 83 "ChipTimersModel" "kindOf" "[I", Cond.fieldLink RX8 89 "ChipTimersModel" "levelOf" "[I", Cond.fieldLink RX8 92 "ChipTimersModel" "sinceOf" "[I", Cond.methodLink RX8 208 yX8_enters, Cond.instanceMethod yX8_enters, Cond.selects RX8 yX8_enters yX8_enters, Cond.code yX8_enters cX8_enters 3 none, Cond.fieldLink RX8 202 "ChipTimersModel" "entries" "I", Cond.fieldLink RX8 107 "ChipTimersModel" "entryTick" "[I", Cond.fieldLink RX8 110 "ChipTimersModel" "entryPin" "[I", Cond.fieldLink RX8 113 "ChipTimersModel" "entryLevel" "[I", Cond.fieldLink RX8 159 "ChipTimersModel" "tick" "I"]
def wsX8_outputs : List Cond := .code yX8_outputs cX8_outputs 5 (some .int) :: ((wsX8_outputs_r1 ++ wsX8_outputs_r2) ++ wsX80)
def wsX8_onOf : List Cond := .code yX8_onOf cX8_onOf 2 (some .int) :: ([.methodLink RX8 198 yX8_isOn, .instanceMethod yX8_isOn, .selects RX8 yX8_isOn yX8_isOn, .initialized RX8, .code yX8_isOn cX8_isOn 3 (some .boolean), .fieldLink RX8 83 "ChipTimersModel" "kindOf" "[I", .fieldLink RX8 194 "ChipTimersModel" "isBraked" "Z", .fieldLink RX8 89 "ChipTimersModel" "levelOf" "[I", .fieldLink RX8 92 "ChipTimersModel" "sinceOf" "[I", .fieldLink RX8 95 "ChipTimersModel" "deadOf" "[I"] ++ wsX80)
def wsX8_ofChannel : List Cond := .code yX8_ofChannel cX8_ofChannel 3 (some .int) :: ([.fieldLink RX8 80 "ChipTimersModel" "comparesTo" "[I", .fieldLink RX8 83 "ChipTimersModel" "kindOf" "[I", .fieldLink RX8 86 "ChipTimersModel" "markOf" "[I", .fieldLink RX8 89 "ChipTimersModel" "levelOf" "[I", .fieldLink RX8 92 "ChipTimersModel" "sinceOf" "[I", .fieldLink RX8 95 "ChipTimersModel" "deadOf" "[I", .fieldLink RX8 98 "ChipTimersModel" "polarityOf" "[I", .fieldLink RX8 101 "ChipTimersModel" "safeOf" "[I", .methodLink RX8 130 yX8_isOne, .static yX8_isOne, .initialized RX8, .code yX8_isOne cX8_isOne 1 (some .boolean), .methodLink RX8 126 yX8_within, .static yX8_within, .code yX8_within cX8_within 3 (some .boolean), .methodLink RX8 211 yX8_onOf, .instanceMethod yX8_onOf, .selects RX8 yX8_onOf yX8_onOf, .code yX8_onOf cX8_onOf 2 (some .int), .methodLink RX8 198 yX8_isOn, .instanceMethod yX8_isOn, .selects RX8 yX8_isOn yX8_isOn, .code yX8_isOn cX8_isOn 3 (some .boolean), .fieldLink RX8 194 "ChipTimersModel" "isBraked" "Z"] ++ wsX80)
def wsX8_pin : List Cond := .code yX8_pin cX8_pin 2 (some .int) :: ([.fieldLink RX8 104 "ChipTimersModel" "pinLevel" "[I", .methodLink RX8 126 yX8_within, .static yX8_within, .initialized RX8, .code yX8_within cX8_within 3 (some .boolean)] ++ wsX80)
def wsX8_brakes_r1 : List Cond := [Cond.fieldLink RX8 194 "ChipTimersModel" "isBraked" "Z", Cond.methodLink RX8 184 yX8_pins, Cond.instanceMethod yX8_pins, Cond.selects RX8 yX8_pins yX8_pins, Cond.initialized RX8, Cond.code yX8_pins cX8_pins 3 none, Cond.fieldLink RX8 104 "ChipTimersModel" "pinLevel" "[I", Cond.methodLink RX8 205 yX8_pinThen, Cond.instanceMethod yX8_pinThen, Cond.selects RX8 yX8_pinThen yX8_pinThen, Cond.code yX8_pinThen cX8_pinThen 3 (some .int), Cond.fieldLink RX8 101 "ChipTimersModel" "safeOf" "[I", Cond.fieldLink RX8 98 "ChipTimersModel" "polarityOf" "[I", Cond.methodLink RX8 198 yX8_isOn, Cond.instanceMethod yX8_isOn, Cond.selects RX8 yX8_isOn yX8_isOn, Cond.code yX8_isOn cX8_isOn 3 (some .boolean), Cond.fieldLink RX8 83 "ChipTimersModel" "kindOf" "[I", Cond.fieldLink RX8 89 "ChipTimersModel" "levelOf" "[I", Cond.fieldLink RX8 92 "ChipTimersModel" "sinceOf" "[I", Cond.fieldLink RX8 95 "ChipTimersModel" "deadOf" "[I", Cond.methodLink RX8 208 yX8_enters, Cond.instanceMethod yX8_enters, Cond.selects RX8 yX8_enters yX8_enters]
def wsX8_brakes_r2 : List Cond := [Cond.code yX8_enters cX8_enters 3 none, Cond.fieldLink RX8 202 "ChipTimersModel" "entries" "I", Cond.fieldLink RX8 107 "ChipTimersModel" "entryTick" "[I", Cond.fieldLink RX8 110 "ChipTimersModel" "entryPin" "[I", Cond.fieldLink RX8 113 "ChipTimersModel" "entryLevel" "[I", Cond.fieldLink RX8 159 "ChipTimersModel" "tick" "I"]
def wsX8_brakes : List Cond := .code yX8_brakes cX8_brakes 3 (some .int) :: ((wsX8_brakes_r1 ++ wsX8_brakes_r2) ++ wsX80)
def wsX8_brake_r1 : List Cond := [Cond.methodLink RX8 214 yX8_brakes, Cond.instanceMethod yX8_brakes, Cond.selects RX8 yX8_brakes yX8_brakes, Cond.initialized RX8, Cond.code yX8_brakes cX8_brakes 3 (some .int), Cond.fieldLink RX8 194 "ChipTimersModel" "isBraked" "Z", Cond.methodLink RX8 184 yX8_pins, Cond.instanceMethod yX8_pins, Cond.selects RX8 yX8_pins yX8_pins, Cond.code yX8_pins cX8_pins 3 none, Cond.fieldLink RX8 104 "ChipTimersModel" "pinLevel" "[I", Cond.methodLink RX8 205 yX8_pinThen, Cond.instanceMethod yX8_pinThen, Cond.selects RX8 yX8_pinThen yX8_pinThen, Cond.code yX8_pinThen cX8_pinThen 3 (some .int), Cond.fieldLink RX8 101 "ChipTimersModel" "safeOf" "[I", Cond.fieldLink RX8 98 "ChipTimersModel" "polarityOf" "[I", Cond.methodLink RX8 198 yX8_isOn, Cond.instanceMethod yX8_isOn, Cond.selects RX8 yX8_isOn yX8_isOn, Cond.code yX8_isOn cX8_isOn 3 (some .boolean), Cond.fieldLink RX8 83 "ChipTimersModel" "kindOf" "[I", Cond.fieldLink RX8 89 "ChipTimersModel" "levelOf" "[I", Cond.fieldLink RX8 92 "ChipTimersModel" "sinceOf" "[I"]
def wsX8_brake_r2 : List Cond := [Cond.fieldLink RX8 95 "ChipTimersModel" "deadOf" "[I", Cond.methodLink RX8 208 yX8_enters, Cond.instanceMethod yX8_enters, Cond.selects RX8 yX8_enters yX8_enters, Cond.code yX8_enters cX8_enters 3 none, Cond.fieldLink RX8 202 "ChipTimersModel" "entries" "I", Cond.fieldLink RX8 107 "ChipTimersModel" "entryTick" "[I", Cond.fieldLink RX8 110 "ChipTimersModel" "entryPin" "[I", Cond.fieldLink RX8 113 "ChipTimersModel" "entryLevel" "[I", Cond.fieldLink RX8 159 "ChipTimersModel" "tick" "I"]
def wsX8_brake : List Cond := .code yX8_brake cX8_brake 1 (some .int) :: ((wsX8_brake_r1 ++ wsX8_brake_r2) ++ wsX80)
def wsX8_arm_r1 : List Cond := [Cond.methodLink RX8 214 yX8_brakes, Cond.instanceMethod yX8_brakes, Cond.selects RX8 yX8_brakes yX8_brakes, Cond.initialized RX8, Cond.code yX8_brakes cX8_brakes 3 (some .int), Cond.fieldLink RX8 194 "ChipTimersModel" "isBraked" "Z", Cond.methodLink RX8 184 yX8_pins, Cond.instanceMethod yX8_pins, Cond.selects RX8 yX8_pins yX8_pins, Cond.code yX8_pins cX8_pins 3 none, Cond.fieldLink RX8 104 "ChipTimersModel" "pinLevel" "[I", Cond.methodLink RX8 205 yX8_pinThen, Cond.instanceMethod yX8_pinThen, Cond.selects RX8 yX8_pinThen yX8_pinThen, Cond.code yX8_pinThen cX8_pinThen 3 (some .int), Cond.fieldLink RX8 101 "ChipTimersModel" "safeOf" "[I", Cond.fieldLink RX8 98 "ChipTimersModel" "polarityOf" "[I", Cond.methodLink RX8 198 yX8_isOn, Cond.instanceMethod yX8_isOn, Cond.selects RX8 yX8_isOn yX8_isOn, Cond.code yX8_isOn cX8_isOn 3 (some .boolean), Cond.fieldLink RX8 83 "ChipTimersModel" "kindOf" "[I", Cond.fieldLink RX8 89 "ChipTimersModel" "levelOf" "[I", Cond.fieldLink RX8 92 "ChipTimersModel" "sinceOf" "[I"]
def wsX8_arm_r2 : List Cond := [Cond.fieldLink RX8 95 "ChipTimersModel" "deadOf" "[I", Cond.methodLink RX8 208 yX8_enters, Cond.instanceMethod yX8_enters, Cond.selects RX8 yX8_enters yX8_enters, Cond.code yX8_enters cX8_enters 3 none, Cond.fieldLink RX8 202 "ChipTimersModel" "entries" "I", Cond.fieldLink RX8 107 "ChipTimersModel" "entryTick" "[I", Cond.fieldLink RX8 110 "ChipTimersModel" "entryPin" "[I", Cond.fieldLink RX8 113 "ChipTimersModel" "entryLevel" "[I", Cond.fieldLink RX8 159 "ChipTimersModel" "tick" "I"]
def wsX8_arm : List Cond := .code yX8_arm cX8_arm 1 (some .int) :: ((wsX8_arm_r1 ++ wsX8_arm_r2) ++ wsX80)
def wsX8_record : List Cond := .code yX8_record cX8_record 4 (some .int) :: ([.fieldLink RX8 202 "ChipTimersModel" "entries" "I", .fieldLink RX8 107 "ChipTimersModel" "entryTick" "[I", .fieldLink RX8 110 "ChipTimersModel" "entryPin" "[I", .fieldLink RX8 113 "ChipTimersModel" "entryLevel" "[I", .methodLink RX8 126 yX8_within, .static yX8_within, .initialized RX8, .code yX8_within cX8_within 3 (some .boolean)] ++ wsX80)
def wsX8_isPair : List Cond := .code yX8_isPair cX8_isPair 1 (some .boolean) :: ([.methodLink RX8 126 yX8_within, .static yX8_within, .initialized RX8, .code yX8_within cX8_within 3 (some .boolean)])
def wsX8_isWhole : List Cond := .code yX8_isWhole cX8_isWhole 3 (some .boolean) :: ([.fieldLink RX8 19 "ChipTimersModel" "sourceOf" "[I", .fieldLink RX8 16 "ChipTimersModel" "shareOf" "[I", .fieldLink RX8 7 "ChipTimersModel" "modeOf" "[I"] ++ wsX80)
def wsX8_holds : List Cond := .code yX8_holds cX8_holds 4 (some .int) :: ([.fieldLink RX8 116 "ChipTimersModel" "isHolding" "[Z", .fieldLink RX8 119 "ChipTimersModel" "heldBy" "[I", .methodLink RX8 218 yX8_isPair, .static yX8_isPair, .initialized RX8, .code yX8_isPair cX8_isPair 1 (some .boolean), .methodLink RX8 126 yX8_within, .static yX8_within, .code yX8_within cX8_within 3 (some .boolean)] ++ wsX80)
def wsX8_read : List Cond := .code yX8_read cX8_read 4 (some .int) :: ([.fieldLink RX8 119 "ChipTimersModel" "heldBy" "[I", .fieldLink RX8 22 "ChipTimersModel" "countOf" "[I", .fieldLink RX8 116 "ChipTimersModel" "isHolding" "[Z", .methodLink RX8 218 yX8_isPair, .static yX8_isPair, .initialized RX8, .code yX8_isPair cX8_isPair 1 (some .boolean), .methodLink RX8 126 yX8_within, .static yX8_within, .code yX8_within cX8_within 3 (some .boolean), .methodLink RX8 221 yX8_isWhole, .instanceMethod yX8_isWhole, .selects RX8 yX8_isWhole yX8_isWhole, .code yX8_isWhole cX8_isWhole 3 (some .boolean), .fieldLink RX8 19 "ChipTimersModel" "sourceOf" "[I", .fieldLink RX8 16 "ChipTimersModel" "shareOf" "[I", .fieldLink RX8 7 "ChipTimersModel" "modeOf" "[I"] ++ wsX80)
def wsX8_wide : List Cond := .code yX8_wide cX8_wide 2 (some .int) :: ([.fieldLink RX8 22 "ChipTimersModel" "countOf" "[I", .fieldLink RX8 13 "ChipTimersModel" "topOf" "[I", .methodLink RX8 218 yX8_isPair, .static yX8_isPair, .initialized RX8, .code yX8_isPair cX8_isPair 1 (some .boolean), .methodLink RX8 126 yX8_within, .static yX8_within, .code yX8_within cX8_within 3 (some .boolean), .methodLink RX8 221 yX8_isWhole, .instanceMethod yX8_isWhole, .selects RX8 yX8_isWhole yX8_isWhole, .code yX8_isWhole cX8_isWhole 3 (some .boolean), .fieldLink RX8 19 "ChipTimersModel" "sourceOf" "[I", .fieldLink RX8 16 "ChipTimersModel" "shareOf" "[I", .fieldLink RX8 7 "ChipTimersModel" "modeOf" "[I"] ++ wsX80)
def wsX8_slow : List Cond := .code yX8_slow cX8_slow 4 (some .int) :: ([.fieldLink RX8 122 "ChipTimersModel" "period" "I", .fieldLink RX8 156 "ChipTimersModel" "crossed" "I", .fieldLink RX8 224 "ChipTimersModel" "how" "I", .fieldLink RX8 174 "ChipTimersModel" "first" "I", .fieldLink RX8 177 "ChipTimersModel" "second" "I", .methodLink RX8 130 yX8_isOne, .static yX8_isOne, .initialized RX8, .code yX8_isOne cX8_isOne 1 (some .boolean), .methodLink RX8 126 yX8_within, .static yX8_within, .code yX8_within cX8_within 3 (some .boolean)] ++ wsX80)
def wsX8_crossed : List Cond := .code yX8_crossed cX8_crossed 2 (some .int) :: ([.fieldLink RX8 174 "ChipTimersModel" "first" "I", .fieldLink RX8 177 "ChipTimersModel" "second" "I", .fieldLink RX8 122 "ChipTimersModel" "period" "I", .fieldLink RX8 156 "ChipTimersModel" "crossed" "I", .fieldLink RX8 224 "ChipTimersModel" "how" "I"] ++ wsX80)
def wsX8_many : List Cond := .code yX8_many cX8_many 6 (some .int) :: ([.fieldLink RX8 74 "ChipTimersModel" "readyOf" "[I", .fieldLink RX8 31 "ChipTimersModel" "oversOf" "[I", .fieldLink RX8 159 "ChipTimersModel" "tick" "I", .fieldLink RX8 194 "ChipTimersModel" "isBraked" "Z", .fieldLink RX8 202 "ChipTimersModel" "entries" "I", .methodLink RX8 198 yX8_isOn, .instanceMethod yX8_isOn, .selects RX8 yX8_isOn yX8_isOn, .initialized RX8, .code yX8_isOn cX8_isOn 3 (some .boolean), .fieldLink RX8 83 "ChipTimersModel" "kindOf" "[I", .fieldLink RX8 89 "ChipTimersModel" "levelOf" "[I", .fieldLink RX8 92 "ChipTimersModel" "sinceOf" "[I", .fieldLink RX8 95 "ChipTimersModel" "deadOf" "[I"] ++ wsX80)
def wsJ9_min_7cf53 : List Cond := .code yJ9_min_7cf53 cJ9_min_7cf53 2 (some .int) :: ([])
def wsL_law_r1 : List Cond := [Cond.classLink RL 7 RX7, Cond.instantiable RX7 9, Cond.initialized RX7, Cond.classLink RL 10 RX8, Cond.instantiable RX8 45, Cond.initialized RX8, Cond.methodLink RL 9 yX7_init, Cond.instanceMethod yX7_init, Cond.code yX7_init cX7_init 2 none, Cond.methodLink RX7 3 objectInit, Cond.instanceMethod objectInit, Cond.code objectInit ⟨#[0xb1]⟩ 1 none, Cond.classLink RX7 9 RX2, Cond.fieldLink RX7 11 "ChipTimers" "counters" "[LChipTimers$Counter;", Cond.classLink RX7 15 RX3, Cond.fieldLink RX7 17 "ChipTimers" "inputs" "[LChipTimers$Input;", Cond.classLink RX7 21 RX0, Cond.fieldLink RX7 23 "ChipTimers" "catchers" "[LChipTimers$Catcher;", Cond.classLink RX7 27 RX1, Cond.fieldLink RX7 29 "ChipTimers" "channels" "[LChipTimers$Channel;", Cond.classLink RX7 33 RX4, Cond.fieldLink RX7 35 "ChipTimers" "pairs" "[LChipTimers$Pair;", Cond.classLink RX7 39 RX5, Cond.instantiable RX5 6]
def wsL_law_r2 : List Cond := [Cond.initialized RX5, Cond.fieldLink RX7 42 "ChipTimers" "pins" "LChipTimers$Pins;", Cond.classLink RX7 46 RX6, Cond.instantiable RX6 5, Cond.initialized RX6, Cond.fieldLink RX7 49 "ChipTimers" "slowClock" "LChipTimers$SlowClock;", Cond.instantiable RX2 11, Cond.initialized RX2, Cond.instantiable RX3 5, Cond.initialized RX3, Cond.instantiable RX0 7, Cond.initialized RX0, Cond.instantiable RX1 8, Cond.initialized RX1, Cond.instantiable RX4 2, Cond.initialized RX4, Cond.instanceMethod yX5_init, Cond.code yX5_init cX5_init 1 none, Cond.methodLink RX5 3 objectInit, Cond.arrayClass .int, Cond.fieldLink RX5 9 "ChipTimers$Pins" "levels" "[I", Cond.fieldLink RX5 15 "ChipTimers$Pins" "entryTicks" "[I", Cond.fieldLink RX5 18 "ChipTimers$Pins" "entryPins" "[I", Cond.fieldLink RX5 21 "ChipTimers$Pins" "entryLevels" "[I"]
def wsL_law_r3 : List Cond := [Cond.instanceMethod yX6_init, Cond.code yX6_init cX6_init 1 none, Cond.methodLink RX6 3 objectInit, Cond.fieldLink RX6 9 "ChipTimers$SlowClock" "period" "I", Cond.fieldLink RX6 15 "ChipTimers$SlowClock" "how" "I", Cond.instanceMethod yX2_init, Cond.code yX2_init cX2_init 1 none, Cond.methodLink RX2 3 objectInit, Cond.fieldLink RX2 9 "ChipTimers$Counter" "mode" "I", Cond.fieldLink RX2 15 "ChipTimers$Counter" "top" "I", Cond.fieldLink RX2 18 "ChipTimers$Counter" "share" "I", Cond.fieldLink RX2 21 "ChipTimers$Counter" "source" "I", Cond.fieldLink RX2 24 "ChipTimers$Counter" "way" "I", Cond.fieldLink RX2 27 "ChipTimers$Counter" "waitingTop" "I", Cond.instanceMethod yX3_init, Cond.code yX3_init cX3_init 1 none, Cond.methodLink RX3 3 objectInit, Cond.fieldLink RX3 9 "ChipTimers$Input" "filter" "I", Cond.instanceMethod yX0_init, Cond.code yX0_init cX0_init 1 none, Cond.methodLink RX0 3 objectInit, Cond.fieldLink RX0 9 "ChipTimers$Catcher" "every" "I", Cond.instanceMethod yX1_init, Cond.code yX1_init cX1_init 1 none]
def wsL_law_r4 : List Cond := [Cond.methodLink RX1 3 objectInit, Cond.fieldLink RX1 9 "ChipTimers$Channel" "mode" "I", Cond.instanceMethod yX4_init, Cond.code yX4_init cX4_init 1 none, Cond.methodLink RX4 3 objectInit, Cond.fieldLink RX4 9 "ChipTimers$Pair" "held" "I", Cond.methodLink RL 12 yX8_init, Cond.instanceMethod yX8_init, Cond.code yX8_init cX8_init 2 none, Cond.methodLink RX8 1 objectInit, Cond.fieldLink RX8 7 "ChipTimersModel" "modeOf" "[I", Cond.fieldLink RX8 13 "ChipTimersModel" "topOf" "[I", Cond.fieldLink RX8 16 "ChipTimersModel" "shareOf" "[I", Cond.fieldLink RX8 19 "ChipTimersModel" "sourceOf" "[I", Cond.fieldLink RX8 22 "ChipTimersModel" "countOf" "[I", Cond.fieldLink RX8 25 "ChipTimersModel" "phaseOf" "[I", Cond.fieldLink RX8 28 "ChipTimersModel" "wayOf" "[I", Cond.fieldLink RX8 31 "ChipTimersModel" "oversOf" "[I", Cond.fieldLink RX8 34 "ChipTimersModel" "waitsOf" "[I", Cond.arrayClass .boolean, Cond.fieldLink RX8 37 "ChipTimersModel" "hasStepped" "[Z", Cond.fieldLink RX8 41 "ChipTimersModel" "wentOver" "[Z", Cond.fieldLink RX8 44 "ChipTimersModel" "rawOf" "[I", Cond.fieldLink RX8 47 "ChipTimersModel" "steadyOf" "[I"]
def wsL_law_r5 : List Cond := [Cond.fieldLink RX8 50 "ChipTimersModel" "filterOf" "[I", Cond.fieldLink RX8 53 "ChipTimersModel" "runOf" "[I", Cond.fieldLink RX8 56 "ChipTimersModel" "edgeOf" "[I", Cond.fieldLink RX8 59 "ChipTimersModel" "catches" "[I", Cond.fieldLink RX8 62 "ChipTimersModel" "edgesOf" "[I", Cond.fieldLink RX8 65 "ChipTimersModel" "everyOf" "[I", Cond.fieldLink RX8 68 "ChipTimersModel" "seenOf" "[I", Cond.fieldLink RX8 71 "ChipTimersModel" "valueOf" "[I", Cond.fieldLink RX8 74 "ChipTimersModel" "readyOf" "[I", Cond.fieldLink RX8 77 "ChipTimersModel" "missedOf" "[I", Cond.fieldLink RX8 80 "ChipTimersModel" "comparesTo" "[I", Cond.fieldLink RX8 83 "ChipTimersModel" "kindOf" "[I", Cond.fieldLink RX8 86 "ChipTimersModel" "markOf" "[I", Cond.fieldLink RX8 89 "ChipTimersModel" "levelOf" "[I", Cond.fieldLink RX8 92 "ChipTimersModel" "sinceOf" "[I", Cond.fieldLink RX8 95 "ChipTimersModel" "deadOf" "[I", Cond.fieldLink RX8 98 "ChipTimersModel" "polarityOf" "[I", Cond.fieldLink RX8 101 "ChipTimersModel" "safeOf" "[I", Cond.fieldLink RX8 104 "ChipTimersModel" "pinLevel" "[I", Cond.fieldLink RX8 107 "ChipTimersModel" "entryTick" "[I", Cond.fieldLink RX8 110 "ChipTimersModel" "entryPin" "[I", Cond.fieldLink RX8 113 "ChipTimersModel" "entryLevel" "[I", Cond.fieldLink RX8 116 "ChipTimersModel" "isHolding" "[Z", Cond.fieldLink RX8 119 "ChipTimersModel" "heldBy" "[I"]
def wsL_law_r6 : List Cond := [Cond.fieldLink RX8 122 "ChipTimersModel" "period" "I", Cond.methodLink RL 13 yX7_counter, Cond.instanceMethod yX7_counter, Cond.selects RX7 yX7_counter yX7_counter, Cond.code yX7_counter cX7_counter 5 (some .int), Cond.methodLink RX7 58 yX7_isOneOf, Cond.static yX7_isOneOf, Cond.code yX7_isOneOf cX7_isOneOf 2 (some .boolean), Cond.methodLink RX7 62 yX7_within, Cond.static yX7_within, Cond.code yX7_within cX7_within 3 (some .boolean), Cond.methodLink RX7 66 yX2_setUp, Cond.instanceMethod yX2_setUp, Cond.selects RX2 yX2_setUp yX2_setUp, Cond.code yX2_setUp cX2_setUp 4 none, Cond.fieldLink RX2 30 "ChipTimers$Counter" "count" "I", Cond.fieldLink RX2 33 "ChipTimers$Counter" "phase" "I", Cond.fieldLink RX2 36 "ChipTimers$Counter" "overs" "I", Cond.methodLink RL 17 yX8_counter, Cond.instanceMethod yX8_counter, Cond.selects RX8 yX8_counter yX8_counter, Cond.code yX8_counter cX8_counter 5 (some .int), Cond.methodLink RX8 130 yX8_isOne, Cond.static yX8_isOne]
def wsL_law_r7 : List Cond := [Cond.code yX8_isOne cX8_isOne 1 (some .boolean), Cond.methodLink RX8 126 yX8_within, Cond.static yX8_within, Cond.code yX8_within cX8_within 3 (some .boolean), Cond.methodLink RL 18 yX7_source, Cond.instanceMethod yX7_source, Cond.selects RX7 yX7_source yX7_source, Cond.code yX7_source cX7_source 4 (some .int), Cond.fieldLink RX7 70 "ChipTimers$Counter" "source" "I", Cond.methodLink RL 22 yX8_source, Cond.instanceMethod yX8_source, Cond.selects RX8 yX8_source yX8_source, Cond.code yX8_source cX8_source 4 (some .int), Cond.methodLink RL 23 yX7_count, Cond.instanceMethod yX7_count, Cond.selects RX7 yX7_count yX7_count, Cond.code yX7_count cX7_count 4 (some .int), Cond.fieldLink RX7 74 "ChipTimers$Counter" "top" "I", Cond.fieldLink RX7 77 "ChipTimers$Counter" "count" "I", Cond.methodLink RL 26 yX8_count, Cond.instanceMethod yX8_count, Cond.selects RX8 yX8_count yX8_count, Cond.code yX8_count cX8_count 4 (some .int), Cond.methodLink RL 27 yX7_top]
def wsL_law_r8 : List Cond := [Cond.instanceMethod yX7_top, Cond.selects RX7 yX7_top yX7_top, Cond.code yX7_top cX7_top 3 (some .int), Cond.fieldLink RX7 80 "ChipTimers$Counter" "waitingTop" "I", Cond.methodLink RL 30 yX8_top, Cond.instanceMethod yX8_top, Cond.selects RX8 yX8_top yX8_top, Cond.code yX8_top cX8_top 3 (some .int), Cond.methodLink RL 31 yX7_ofCounter, Cond.instanceMethod yX7_ofCounter, Cond.selects RX7 yX7_ofCounter yX7_ofCounter, Cond.code yX7_ofCounter cX7_ofCounter 3 (some .int), Cond.methodLink RX7 83 yX2_tell, Cond.instanceMethod yX2_tell, Cond.selects RX2 yX2_tell yX2_tell, Cond.code yX2_tell cX2_tell 2 (some .int), Cond.methodLink RL 34 yX8_ofCounter, Cond.instanceMethod yX8_ofCounter, Cond.selects RX8 yX8_ofCounter yX8_ofCounter, Cond.code yX8_ofCounter cX8_ofCounter 3 (some .int), Cond.methodLink RL 35 yX7_input, Cond.instanceMethod yX7_input, Cond.selects RX7 yX7_input yX7_input, Cond.code yX7_input cX7_input 4 (some .int)]
def wsL_law_r9 : List Cond := [Cond.fieldLink RX7 87 "ChipTimers$Input" "raw" "I", Cond.methodLink RL 38 yX8_input, Cond.instanceMethod yX8_input, Cond.selects RX8 yX8_input yX8_input, Cond.code yX8_input cX8_input 4 (some .int), Cond.methodLink RL 39 yX7_filter, Cond.instanceMethod yX7_filter, Cond.selects RX7 yX7_filter yX7_filter, Cond.code yX7_filter cX7_filter 4 (some .int), Cond.fieldLink RX7 90 "ChipTimers$Input" "filter" "I", Cond.methodLink RL 42 yX8_filter, Cond.instanceMethod yX8_filter, Cond.selects RX8 yX8_filter yX8_filter, Cond.code yX8_filter cX8_filter 4 (some .int), Cond.methodLink RL 43 yX7_ofInput, Cond.instanceMethod yX7_ofInput, Cond.selects RX7 yX7_ofInput yX7_ofInput, Cond.code yX7_ofInput cX7_ofInput 3 (some .int), Cond.methodLink RX7 93 yX3_tell, Cond.instanceMethod yX3_tell, Cond.selects RX3 yX3_tell yX3_tell, Cond.code yX3_tell cX3_tell 2 (some .int), Cond.fieldLink RX3 18 "ChipTimers$Input" "raw" "I", Cond.fieldLink RX3 21 "ChipTimers$Input" "steady" "I"]
def wsL_law_r10 : List Cond := [Cond.fieldLink RX3 24 "ChipTimers$Input" "run" "I", Cond.methodLink RL 46 yX8_ofInput, Cond.instanceMethod yX8_ofInput, Cond.selects RX8 yX8_ofInput yX8_ofInput, Cond.code yX8_ofInput cX8_ofInput 3 (some .int), Cond.methodLink RL 47 yX7_catcher, Cond.instanceMethod yX7_catcher, Cond.selects RX7 yX7_catcher yX7_catcher, Cond.code yX7_catcher cX7_catcher 5 (some .int), Cond.methodLink RX7 94 yX0_setUp, Cond.instanceMethod yX0_setUp, Cond.selects RX0 yX0_setUp yX0_setUp, Cond.code yX0_setUp cX0_setUp 4 none, Cond.fieldLink RX0 15 "ChipTimers$Catcher" "counter" "I", Cond.fieldLink RX0 18 "ChipTimers$Catcher" "edges" "I", Cond.fieldLink RX0 21 "ChipTimers$Catcher" "seen" "I", Cond.fieldLink RX0 24 "ChipTimers$Catcher" "value" "I", Cond.fieldLink RX0 27 "ChipTimers$Catcher" "ready" "I", Cond.fieldLink RX0 30 "ChipTimers$Catcher" "missed" "I", Cond.methodLink RL 50 yX8_catcher, Cond.instanceMethod yX8_catcher, Cond.selects RX8 yX8_catcher yX8_catcher, Cond.code yX8_catcher cX8_catcher 5 (some .int), Cond.methodLink RL 51 yX7_taken]
def wsL_law_r11 : List Cond := [Cond.instanceMethod yX7_taken, Cond.selects RX7 yX7_taken yX7_taken, Cond.code yX7_taken cX7_taken 2 (some .int), Cond.methodLink RX7 95 yX0_handOver, Cond.instanceMethod yX0_handOver, Cond.selects RX0 yX0_handOver yX0_handOver, Cond.code yX0_handOver cX0_handOver 2 (some .int), Cond.methodLink RL 55 yX8_taken, Cond.instanceMethod yX8_taken, Cond.selects RX8 yX8_taken yX8_taken, Cond.code yX8_taken cX8_taken 2 (some .int), Cond.methodLink RL 56 yX7_ofCatcher, Cond.instanceMethod yX7_ofCatcher, Cond.selects RX7 yX7_ofCatcher yX7_ofCatcher, Cond.code yX7_ofCatcher cX7_ofCatcher 3 (some .int), Cond.methodLink RX7 99 yX0_tell, Cond.instanceMethod yX0_tell, Cond.selects RX0 yX0_tell yX0_tell, Cond.code yX0_tell cX0_tell 2 (some .int), Cond.methodLink RL 59 yX8_ofCatcher, Cond.instanceMethod yX8_ofCatcher, Cond.selects RX8 yX8_ofCatcher yX8_ofCatcher, Cond.code yX8_ofCatcher cX8_ofCatcher 3 (some .int), Cond.methodLink RL 60 yX7_ticks]
def wsL_law_r12 : List Cond := [Cond.instanceMethod yX7_ticks, Cond.selects RX7 yX7_ticks yX7_ticks, Cond.code yX7_ticks cX7_ticks 3 (some .int), Cond.fieldLink RX7 103 "ChipTimers" "tickCount" "I", Cond.methodLink RX7 100 yX7_runTick, Cond.instanceMethod yX7_runTick, Cond.selects RX7 yX7_runTick yX7_runTick, Cond.code yX7_runTick cX7_runTick 3 none, Cond.fieldLink RX7 157 "ChipTimers$SlowClock" "counter" "I", Cond.fieldLink RX7 170 "ChipTimers$Input" "edge" "I", Cond.fieldLink RX7 173 "ChipTimers$Catcher" "counter" "I", Cond.fieldLink RX7 178 "ChipTimers$Channel" "counter" "I", Cond.fieldLink RX7 183 "ChipTimers$SlowClock" "period" "I", Cond.methodLink RX7 160 yX3_look, Cond.instanceMethod yX3_look, Cond.selects RX3 yX3_look yX3_look, Cond.code yX3_look cX3_look 1 none, Cond.fieldLink RX3 15 "ChipTimers$Input" "edge" "I", Cond.methodLink RX7 163 yX7_hasPulse, Cond.instanceMethod yX7_hasPulse, Cond.selects RX7 yX7_hasPulse yX7_hasPulse, Cond.code yX7_hasPulse cX7_hasPulse 2 (some .boolean), Cond.fieldLink RX7 189 "ChipTimers$Counter" "wentOver" "Z", Cond.methodLink RX7 166 yX2_pass]
def wsL_law_r13 : List Cond := [Cond.instanceMethod yX2_pass, Cond.selects RX2 yX2_pass yX2_pass, Cond.code yX2_pass cX2_pass 2 none, Cond.fieldLink RX2 39 "ChipTimers$Counter" "wentOver" "Z", Cond.fieldLink RX2 43 "ChipTimers$Counter" "stepped" "Z", Cond.methodLink RX2 46 yX2_step, Cond.instanceMethod yX2_step, Cond.selects RX2 yX2_step yX2_step, Cond.code yX2_step cX2_step 1 none, Cond.methodLink RX2 49 yX2_stepUp, Cond.instanceMethod yX2_stepUp, Cond.selects RX2 yX2_stepUp yX2_stepUp, Cond.code yX2_stepUp cX2_stepUp 1 none, Cond.methodLink RX2 58 yX2_goOver, Cond.instanceMethod yX2_goOver, Cond.selects RX2 yX2_goOver yX2_goOver, Cond.code yX2_goOver cX2_goOver 1 none, Cond.methodLink RX2 61 yX2_takeWaitingTop, Cond.instanceMethod yX2_takeWaitingTop, Cond.selects RX2 yX2_takeWaitingTop yX2_takeWaitingTop, Cond.code yX2_takeWaitingTop cX2_takeWaitingTop 1 none, Cond.methodLink RX2 52 yX2_stepDown, Cond.instanceMethod yX2_stepDown, Cond.selects RX2 yX2_stepDown yX2_stepDown]
def wsL_law_r14 : List Cond := [Cond.code yX2_stepDown cX2_stepDown 1 none, Cond.methodLink RX2 55 yX2_stepBothWays, Cond.instanceMethod yX2_stepBothWays, Cond.selects RX2 yX2_stepBothWays yX2_stepBothWays, Cond.code yX2_stepBothWays cX2_stepBothWays 1 none, Cond.methodLink RX7 174 yX0_notice, Cond.instanceMethod yX0_notice, Cond.selects RX0 yX0_notice yX0_notice, Cond.code yX0_notice cX0_notice 3 none, Cond.methodLink RX7 179 yX1_follow, Cond.instanceMethod yX1_follow, Cond.selects RX1 yX1_follow yX1_follow, Cond.code yX1_follow cX1_follow 3 none, Cond.fieldLink RX1 21 "ChipTimers$Channel" "level" "I", Cond.fieldLink RX1 24 "ChipTimers$Channel" "since" "I", Cond.methodLink RX1 40 Lib.Math.min.name, Cond.static Lib.Math.min.name, Cond.initialized "java/lang/Math", Cond.code Lib.Math.min.name Lib.Math.min.code 2 (some .int), Cond.methodLink RX1 36 yX1_nextLevel, Cond.instanceMethod yX1_nextLevel, Cond.selects RX1 yX1_nextLevel yX1_nextLevel, Cond.code yX1_nextLevel cX1_nextLevel 3 (some .int), Cond.fieldLink RX1 46 "ChipTimers$Counter" "stepped" "Z"]
def wsL_law_r15 : List Cond := [Cond.fieldLink RX1 52 "ChipTimers$Counter" "count" "I", Cond.fieldLink RX1 18 "ChipTimers$Channel" "mark" "I", Cond.methodLink RX7 186 yX6_sample, Cond.instanceMethod yX6_sample, Cond.selects RX6 yX6_sample yX6_sample, Cond.code yX6_sample cX6_sample 3 none, Cond.fieldLink RX6 21 "ChipTimers$SlowClock" "first" "I", Cond.fieldLink RX6 24 "ChipTimers$SlowClock" "second" "I", Cond.methodLink RX6 27 yX6_twist, Cond.static yX6_twist, Cond.code yX6_twist cX6_twist 1 (some .int), Cond.methodLink RX6 31 yX6_untwist, Cond.static yX6_untwist, Cond.code yX6_untwist cX6_untwist 2 (some .int), Cond.methodLink RX7 107 yX7_workOutPins, Cond.instanceMethod yX7_workOutPins, Cond.selects RX7 yX7_workOutPins yX7_workOutPins, Cond.code yX7_workOutPins cX7_workOutPins 3 none, Cond.fieldLink RX7 117 "ChipTimers" "braked" "Z", Cond.methodLink RX7 192 yX1_pinLevel, Cond.instanceMethod yX1_pinLevel, Cond.selects RX1 yX1_pinLevel yX1_pinLevel, Cond.code yX1_pinLevel cX1_pinLevel 4 (some .int), Cond.fieldLink RX1 33 "ChipTimers$Channel" "safe" "I"]
def wsL_law_r16 : List Cond := [Cond.fieldLink RX1 30 "ChipTimers$Channel" "polarity" "I", Cond.methodLink RX1 55 yX1_outputsOn, Cond.instanceMethod yX1_outputsOn, Cond.selects RX1 yX1_outputsOn yX1_outputsOn, Cond.code yX1_outputsOn cX1_outputsOn 2 (some .int), Cond.fieldLink RX1 27 "ChipTimers$Channel" "dead" "I", Cond.methodLink RX7 195 yX5_drive, Cond.instanceMethod yX5_drive, Cond.selects RX5 yX5_drive yX5_drive, Cond.code yX5_drive cX5_drive 4 none, Cond.fieldLink RX5 24 "ChipTimers$Pins" "next" "I", Cond.fieldLink RX5 28 "ChipTimers$Pins" "entries" "I", Cond.methodLink RX5 31 Lib.Math.min.name, Cond.methodLink RL 63 yX8_ticks, Cond.instanceMethod yX8_ticks, Cond.selects RX8 yX8_ticks yX8_ticks, Cond.code yX8_ticks cX8_ticks 3 (some .int), Cond.fieldLink RX8 159 "ChipTimersModel" "tick" "I", Cond.methodLink RX8 187 yX8_oneTick, Cond.instanceMethod yX8_oneTick, Cond.selects RX8 yX8_oneTick yX8_oneTick, Cond.code yX8_oneTick cX8_oneTick 2 none, Cond.fieldLink RX8 156 "ChipTimersModel" "crossed" "I", Cond.fieldLink RX8 174 "ChipTimersModel" "first" "I"]
def wsL_law_r17 : List Cond := [Cond.fieldLink RX8 177 "ChipTimersModel" "second" "I", Cond.methodLink RX8 162 yX8_inputs, Cond.instanceMethod yX8_inputs, Cond.selects RX8 yX8_inputs yX8_inputs, Cond.code yX8_inputs cX8_inputs 2 none, Cond.methodLink RX8 165 yX8_counters, Cond.instanceMethod yX8_counters, Cond.selects RX8 yX8_counters yX8_counters, Cond.code yX8_counters cX8_counters 2 none, Cond.methodLink RX8 150 yX8_hasPulse, Cond.instanceMethod yX8_hasPulse, Cond.selects RX8 yX8_hasPulse yX8_hasPulse, Cond.code yX8_hasPulse cX8_hasPulse 2 (some .boolean), Cond.methodLink RX8 153 yX8_steps, Cond.instanceMethod yX8_steps, Cond.selects RX8 yX8_steps yX8_steps, Cond.code yX8_steps cX8_steps 2 none, Cond.methodLink RX8 141 yX8_stepsUp, Cond.instanceMethod yX8_stepsUp, Cond.selects RX8 yX8_stepsUp yX8_stepsUp, Cond.code yX8_stepsUp cX8_stepsUp 2 none, Cond.methodLink RX8 134 yX8_goesOver, Cond.instanceMethod yX8_goesOver, Cond.selects RX8 yX8_goesOver yX8_goesOver]
def wsL_law_r18 : List Cond := [Cond.code yX8_goesOver cX8_goesOver 2 none, Cond.methodLink RX8 138 yX8_takesTop, Cond.instanceMethod yX8_takesTop, Cond.selects RX8 yX8_takesTop yX8_takesTop, Cond.code yX8_takesTop cX8_takesTop 2 none, Cond.methodLink RX8 144 yX8_stepsDown, Cond.instanceMethod yX8_stepsDown, Cond.selects RX8 yX8_stepsDown yX8_stepsDown, Cond.code yX8_stepsDown cX8_stepsDown 2 none, Cond.methodLink RX8 147 yX8_stepsBoth, Cond.instanceMethod yX8_stepsBoth, Cond.selects RX8 yX8_stepsBoth yX8_stepsBoth, Cond.code yX8_stepsBoth cX8_stepsBoth 2 none, Cond.methodLink RX8 168 yX8_catchers, Cond.instanceMethod yX8_catchers, Cond.selects RX8 yX8_catchers yX8_catchers, Cond.code yX8_catchers cX8_catchers 3 none, Cond.methodLink RX8 171 yX8_channels, Cond.instanceMethod yX8_channels, Cond.selects RX8 yX8_channels yX8_channels, Cond.code yX8_channels cX8_channels 3 none, Cond.methodLink RX8 190 yX8_levelThen, Cond.instanceMethod yX8_levelThen, Cond.selects RX8 yX8_levelThen yX8_levelThen]
def wsL_law_r19 : List Cond := [Cond.code yX8_levelThen cX8_levelThen 4 (some .int), Cond.methodLink RX8 180 yX8_sampleOf, Cond.instanceMethod yX8_sampleOf, Cond.selects RX8 yX8_sampleOf yX8_sampleOf, Cond.code yX8_sampleOf cX8_sampleOf 3 (some .int), Cond.fieldLink RX8 224 "ChipTimersModel" "how" "I", Cond.methodLink RX8 227 yX8_twisted, Cond.static yX8_twisted, Cond.code yX8_twisted cX8_twisted 1 (some .int), Cond.methodLink RX8 230 yX8_untwisted, Cond.static yX8_untwisted, Cond.code yX8_untwisted cX8_untwisted 3 (some .int), Cond.methodLink RX8 184 yX8_pins, Cond.instanceMethod yX8_pins, Cond.selects RX8 yX8_pins yX8_pins, Cond.code yX8_pins cX8_pins 3 none, Cond.methodLink RX8 205 yX8_pinThen, Cond.instanceMethod yX8_pinThen, Cond.selects RX8 yX8_pinThen yX8_pinThen, Cond.code yX8_pinThen cX8_pinThen 3 (some .int), Cond.fieldLink RX8 194 "ChipTimersModel" "isBraked" "Z", Cond.methodLink RX8 198 yX8_isOn, Cond.instanceMethod yX8_isOn, Cond.selects RX8 yX8_isOn yX8_isOn]
def wsL_law_r20 : List Cond := [Cond.code yX8_isOn cX8_isOn 3 (some .boolean), Cond.methodLink RX8 208 yX8_enters, Cond.instanceMethod yX8_enters, Cond.selects RX8 yX8_enters yX8_enters, Cond.code yX8_enters cX8_enters 3 none, Cond.fieldLink RX8 202 "ChipTimersModel" "entries" "I", Cond.methodLink RL 64 yX7_channel, Cond.instanceMethod yX7_channel, Cond.selects RX7 yX7_channel yX7_channel, Cond.code yX7_channel cX7_channel 5 (some .int), Cond.methodLink RX7 106 yX1_setUp, Cond.instanceMethod yX1_setUp, Cond.selects RX1 yX1_setUp yX1_setUp, Cond.code yX1_setUp cX1_setUp 4 none, Cond.fieldLink RX1 15 "ChipTimers$Channel" "counter" "I", Cond.methodLink RL 67 yX8_channel, Cond.instanceMethod yX8_channel, Cond.selects RX8 yX8_channel yX8_channel, Cond.code yX8_channel cX8_channel 5 (some .int), Cond.methodLink RL 68 yX7_outputs, Cond.instanceMethod yX7_outputs, Cond.selects RX7 yX7_outputs yX7_outputs, Cond.code yX7_outputs cX7_outputs 5 (some .int), Cond.methodLink RX7 110 yX7_isSetOfOutputs]
def wsL_law_r21 : List Cond := [Cond.static yX7_isSetOfOutputs, Cond.code yX7_isSetOfOutputs cX7_isSetOfOutputs 1 (some .boolean), Cond.methodLink RX7 114 yX1_shapeOutputs, Cond.instanceMethod yX1_shapeOutputs, Cond.selects RX1 yX1_shapeOutputs yX1_shapeOutputs, Cond.code yX1_shapeOutputs cX1_shapeOutputs 4 none, Cond.methodLink RL 71 yX8_outputs, Cond.instanceMethod yX8_outputs, Cond.selects RX8 yX8_outputs yX8_outputs, Cond.code yX8_outputs cX8_outputs 5 (some .int), Cond.methodLink RL 72 yX7_ofChannel, Cond.instanceMethod yX7_ofChannel, Cond.selects RX7 yX7_ofChannel yX7_ofChannel, Cond.code yX7_ofChannel cX7_ofChannel 3 (some .int), Cond.methodLink RX7 121 yX1_tell, Cond.instanceMethod yX1_tell, Cond.selects RX1 yX1_tell yX1_tell, Cond.code yX1_tell cX1_tell 3 (some .int), Cond.methodLink RL 75 yX8_ofChannel, Cond.instanceMethod yX8_ofChannel, Cond.selects RX8 yX8_ofChannel yX8_ofChannel, Cond.code yX8_ofChannel cX8_ofChannel 3 (some .int), Cond.methodLink RX8 211 yX8_onOf, Cond.instanceMethod yX8_onOf]
def wsL_law_r22 : List Cond := [Cond.selects RX8 yX8_onOf yX8_onOf, Cond.code yX8_onOf cX8_onOf 2 (some .int), Cond.methodLink RL 76 yX7_pin, Cond.instanceMethod yX7_pin, Cond.selects RX7 yX7_pin yX7_pin, Cond.code yX7_pin cX7_pin 2 (some .int), Cond.fieldLink RX7 124 "ChipTimers$Pins" "levels" "[I", Cond.methodLink RL 79 yX8_pin, Cond.instanceMethod yX8_pin, Cond.selects RX8 yX8_pin yX8_pin, Cond.code yX8_pin cX8_pin 2 (some .int), Cond.methodLink RL 80 yX7_brake, Cond.instanceMethod yX7_brake, Cond.selects RX7 yX7_brake yX7_brake, Cond.code yX7_brake cX7_brake 2 (some .int), Cond.methodLink RL 84 yX8_brake, Cond.instanceMethod yX8_brake, Cond.selects RX8 yX8_brake yX8_brake, Cond.code yX8_brake cX8_brake 1 (some .int), Cond.methodLink RX8 214 yX8_brakes, Cond.instanceMethod yX8_brakes, Cond.selects RX8 yX8_brakes yX8_brakes, Cond.code yX8_brakes cX8_brakes 3 (some .int), Cond.methodLink RL 85 yX7_arm]
def wsL_law_r23 : List Cond := [Cond.instanceMethod yX7_arm, Cond.selects RX7 yX7_arm yX7_arm, Cond.code yX7_arm cX7_arm 2 (some .int), Cond.methodLink RL 88 yX8_arm, Cond.instanceMethod yX8_arm, Cond.selects RX8 yX8_arm yX8_arm, Cond.code yX8_arm cX8_arm 1 (some .int), Cond.methodLink RL 89 yX7_record, Cond.instanceMethod yX7_record, Cond.selects RX7 yX7_record yX7_record, Cond.code yX7_record cX7_record 3 (some .int), Cond.methodLink RX7 128 yX5_tell, Cond.instanceMethod yX5_tell, Cond.selects RX5 yX5_tell yX5_tell, Cond.code yX5_tell cX5_tell 4 (some .int), Cond.methodLink RL 92 yX8_record, Cond.instanceMethod yX8_record, Cond.selects RX8 yX8_record yX8_record, Cond.code yX8_record cX8_record 4 (some .int), Cond.methodLink RL 93 yX7_holds, Cond.instanceMethod yX7_holds, Cond.selects RX7 yX7_holds yX7_holds, Cond.code yX7_holds cX7_holds 4 (some .int), Cond.fieldLink RX7 131 "ChipTimers$Pair" "holding" "I"]
def wsL_law_r24 : List Cond := [Cond.fieldLink RX7 134 "ChipTimers$Pair" "held" "I", Cond.methodLink RL 96 yX8_holds, Cond.instanceMethod yX8_holds, Cond.selects RX8 yX8_holds yX8_holds, Cond.code yX8_holds cX8_holds 4 (some .int), Cond.methodLink RX8 218 yX8_isPair, Cond.static yX8_isPair, Cond.code yX8_isPair cX8_isPair 1 (some .boolean), Cond.methodLink RL 97 yX7_read, Cond.instanceMethod yX7_read, Cond.selects RX7 yX7_read yX7_read, Cond.code yX7_read cX7_read 4 (some .int), Cond.methodLink RX7 137 yX7_isWhole, Cond.instanceMethod yX7_isWhole, Cond.selects RX7 yX7_isWhole yX7_isWhole, Cond.code yX7_isWhole cX7_isWhole 4 (some .boolean), Cond.fieldLink RX7 198 "ChipTimers$Counter" "share" "I", Cond.fieldLink RX7 201 "ChipTimers$Counter" "mode" "I", Cond.methodLink RX7 140 yX4_takeHigh, Cond.instanceMethod yX4_takeHigh, Cond.selects RX4 yX4_takeHigh yX4_takeHigh, Cond.code yX4_takeHigh cX4_takeHigh 3 (some .int), Cond.fieldLink RX4 15 "ChipTimers$Pair" "holding" "I", Cond.methodLink RL 100 yX8_read]
def wsL_law_r25 : List Cond := [Cond.instanceMethod yX8_read, Cond.selects RX8 yX8_read yX8_read, Cond.code yX8_read cX8_read 4 (some .int), Cond.methodLink RX8 221 yX8_isWhole, Cond.instanceMethod yX8_isWhole, Cond.selects RX8 yX8_isWhole yX8_isWhole, Cond.code yX8_isWhole cX8_isWhole 3 (some .boolean), Cond.methodLink RL 101 yX7_wide, Cond.instanceMethod yX7_wide, Cond.selects RX7 yX7_wide yX7_wide, Cond.code yX7_wide cX7_wide 4 (some .int), Cond.methodLink RL 104 yX8_wide, Cond.instanceMethod yX8_wide, Cond.selects RX8 yX8_wide yX8_wide, Cond.code yX8_wide cX8_wide 2 (some .int), Cond.methodLink RL 105 yX7_slow, Cond.instanceMethod yX7_slow, Cond.selects RX7 yX7_slow yX7_slow, Cond.code yX7_slow cX7_slow 4 (some .int), Cond.methodLink RX7 143 yX6_setUp, Cond.instanceMethod yX6_setUp, Cond.selects RX6 yX6_setUp yX6_setUp, Cond.code yX6_setUp cX6_setUp 4 none, Cond.fieldLink RX6 18 "ChipTimers$SlowClock" "counter" "I"]
def wsL_law_r26 : List Cond := [Cond.methodLink RL 109 yX8_slow, Cond.instanceMethod yX8_slow, Cond.selects RX8 yX8_slow yX8_slow, Cond.code yX8_slow cX8_slow 4 (some .int), Cond.methodLink RL 110 yX7_crossed, Cond.instanceMethod yX7_crossed, Cond.selects RX7 yX7_crossed yX7_crossed, Cond.code yX7_crossed cX7_crossed 2 (some .int), Cond.methodLink RX7 144 yX6_tell, Cond.instanceMethod yX6_tell, Cond.selects RX6 yX6_tell yX6_tell, Cond.code yX6_tell cX6_tell 2 (some .int), Cond.methodLink RL 113 yX8_crossed, Cond.instanceMethod yX8_crossed, Cond.selects RX8 yX8_crossed yX8_crossed, Cond.code yX8_crossed cX8_crossed 2 (some .int), Cond.methodLink RL 114 yX7_many, Cond.instanceMethod yX7_many, Cond.selects RX7 yX7_many yX7_many, Cond.code yX7_many cX7_many 2 (some .int), Cond.fieldLink RX7 148 "ChipTimers$Pins" "entries" "I", Cond.methodLink RX7 145 yX7_outputsOn, Cond.instanceMethod yX7_outputsOn, Cond.selects RX7 yX7_outputsOn yX7_outputsOn]
def wsL_law_r27 : List Cond := [Cond.code yX7_outputsOn cX7_outputsOn 3 (some .int), Cond.methodLink RX7 204 yX1_outputsOn, Cond.methodLink RX7 207 yJ6_bitCount_0f7a4, Cond.static yJ6_bitCount_0f7a4, Cond.initialized RJ6, Cond.code yJ6_bitCount_0f7a4 cJ6_bitCount_0f7a4 1 (some .int), Cond.constant RJ6 265 (1431655765), Cond.constant RJ6 266 (858993459), Cond.constant RJ6 267 (252645135), Cond.methodLink RX7 151 yX7_catchersReady, Cond.instanceMethod yX7_catchersReady, Cond.selects RX7 yX7_catchersReady yX7_catchersReady, Cond.code yX7_catchersReady cX7_catchersReady 3 (some .int), Cond.fieldLink RX7 212 "ChipTimers$Catcher" "ready" "I", Cond.methodLink RX7 154 yX7_oversOfAll, Cond.instanceMethod yX7_oversOfAll, Cond.selects RX7 yX7_oversOfAll yX7_oversOfAll, Cond.code yX7_oversOfAll cX7_oversOfAll 3 (some .int), Cond.fieldLink RX7 215 "ChipTimers$Counter" "overs" "I", Cond.methodLink RL 117 yX8_many, Cond.instanceMethod yX8_many, Cond.selects RX8 yX8_many yX8_many, Cond.code yX8_many cX8_many 6 (some .int)]
def wsL_law : List Cond := (wsL_law_r1 ++ (wsL_law_r2 ++ (wsL_law_r3 ++ (wsL_law_r4 ++ (wsL_law_r5 ++ (wsL_law_r6 ++ (wsL_law_r7 ++ (wsL_law_r8 ++ (wsL_law_r9 ++ (wsL_law_r10 ++ (wsL_law_r11 ++ (wsL_law_r12 ++ (wsL_law_r13 ++ (wsL_law_r14 ++ (wsL_law_r15 ++ (wsL_law_r16 ++ (wsL_law_r17 ++ (wsL_law_r18 ++ (wsL_law_r19 ++ (wsL_law_r20 ++ (wsL_law_r21 ++ (wsL_law_r22 ++ (wsL_law_r23 ++ (wsL_law_r24 ++ (wsL_law_r25 ++ (wsL_law_r26 ++ wsL_law_r27)))))))))))))))))))))))))) ++ wsX70 ++ wsX80 ++ wsX50 ++ wsX60 ++ wsX20 ++ wsX30 ++ wsX00 ++ wsX10 ++ wsX40 ++ ([] : List Cond)
theorem inlX0 : ∀ w ∈ wsX00, w ∈ wsL_law := fun _ h => List.mem_append_left _ (List.mem_append_left _ (List.mem_append_left _ (List.mem_append_right _ h)))
theorem inlX1 : ∀ w ∈ wsX10, w ∈ wsL_law := fun _ h => List.mem_append_left _ (List.mem_append_left _ (List.mem_append_right _ h))
theorem inlX2 : ∀ w ∈ wsX20, w ∈ wsL_law := fun _ h => List.mem_append_left _ (List.mem_append_left _ (List.mem_append_left _ (List.mem_append_left _ (List.mem_append_left _ (List.mem_append_right _ h)))))
theorem inlX3 : ∀ w ∈ wsX30, w ∈ wsL_law := fun _ h => List.mem_append_left _ (List.mem_append_left _ (List.mem_append_left _ (List.mem_append_left _ (List.mem_append_right _ h))))
theorem inlX4 : ∀ w ∈ wsX40, w ∈ wsL_law := fun _ h => List.mem_append_left _ (List.mem_append_right _ h)
theorem inlX5 : ∀ w ∈ wsX50, w ∈ wsL_law := fun _ h => List.mem_append_left _ (List.mem_append_left _ (List.mem_append_left _ (List.mem_append_left _ (List.mem_append_left _ (List.mem_append_left _ (List.mem_append_left _ (List.mem_append_right _ h)))))))
theorem inlX6 : ∀ w ∈ wsX60, w ∈ wsL_law := fun _ h => List.mem_append_left _ (List.mem_append_left _ (List.mem_append_left _ (List.mem_append_left _ (List.mem_append_left _ (List.mem_append_left _ (List.mem_append_right _ h))))))
theorem inlX7 : ∀ w ∈ wsX70, w ∈ wsL_law := fun _ h => List.mem_append_left _ (List.mem_append_left _ (List.mem_append_left _ (List.mem_append_left _ (List.mem_append_left _ (List.mem_append_left _ (List.mem_append_left _ (List.mem_append_left _ (List.mem_append_left _ (List.mem_append_right _ h)))))))))
theorem inlX8 : ∀ w ∈ wsX80, w ∈ wsL_law := fun _ h => List.mem_append_left _ (List.mem_append_left _ (List.mem_append_left _ (List.mem_append_left _ (List.mem_append_left _ (List.mem_append_left _ (List.mem_append_left _ (List.mem_append_left _ (List.mem_append_right _ h))))))))
theorem dX0_init_0 : decode cX0_init 0 = .ok (.aload_n 0, 1) := by decide +kernel
theorem dX0_init_1 : decode cX0_init 1 = .ok (.invokespecial 3, 3) := by decide +kernel
theorem dX0_init_4 : decode cX0_init 4 = .ok (.aload_n 0, 1) := by decide +kernel
theorem dX0_init_5 : decode cX0_init 5 = .ok (.iconst 1, 1) := by decide +kernel
theorem dX0_init_6 : decode cX0_init 6 = .ok (.putfield 9, 3) := by decide +kernel
theorem dX0_init_9 : decode cX0_init 9 = .ok (.return_, 1) := by decide +kernel
theorem dX0_setUp_0 : decode cX0_setUp 0 = .ok (.aload_n 0, 1) := by decide +kernel
theorem dX0_setUp_1 : decode cX0_setUp 1 = .ok (.iload_n 1, 1) := by decide +kernel
theorem dX0_setUp_2 : decode cX0_setUp 2 = .ok (.putfield 15, 3) := by decide +kernel
theorem dX0_setUp_5 : decode cX0_setUp 5 = .ok (.aload_n 0, 1) := by decide +kernel
theorem dX0_setUp_6 : decode cX0_setUp 6 = .ok (.iload_n 2, 1) := by decide +kernel
theorem dX0_setUp_7 : decode cX0_setUp 7 = .ok (.putfield 18, 3) := by decide +kernel
theorem dX0_setUp_10 : decode cX0_setUp 10 = .ok (.aload_n 0, 1) := by decide +kernel
theorem dX0_setUp_11 : decode cX0_setUp 11 = .ok (.iload_n 3, 1) := by decide +kernel
theorem dX0_setUp_12 : decode cX0_setUp 12 = .ok (.putfield 9, 3) := by decide +kernel
theorem dX0_setUp_15 : decode cX0_setUp 15 = .ok (.aload_n 0, 1) := by decide +kernel
theorem dX0_setUp_16 : decode cX0_setUp 16 = .ok (.iconst 0, 1) := by decide +kernel
theorem dX0_setUp_17 : decode cX0_setUp 17 = .ok (.putfield 21, 3) := by decide +kernel
theorem dX0_setUp_20 : decode cX0_setUp 20 = .ok (.aload_n 0, 1) := by decide +kernel
theorem dX0_setUp_21 : decode cX0_setUp 21 = .ok (.iconst 0, 1) := by decide +kernel
theorem dX0_setUp_22 : decode cX0_setUp 22 = .ok (.putfield 24, 3) := by decide +kernel
theorem dX0_setUp_25 : decode cX0_setUp 25 = .ok (.aload_n 0, 1) := by decide +kernel
theorem dX0_setUp_26 : decode cX0_setUp 26 = .ok (.iconst 0, 1) := by decide +kernel
theorem dX0_setUp_27 : decode cX0_setUp 27 = .ok (.putfield 27, 3) := by decide +kernel
theorem dX0_setUp_30 : decode cX0_setUp 30 = .ok (.aload_n 0, 1) := by decide +kernel
theorem dX0_setUp_31 : decode cX0_setUp 31 = .ok (.iconst 0, 1) := by decide +kernel
theorem dX0_setUp_32 : decode cX0_setUp 32 = .ok (.putfield 30, 3) := by decide +kernel
theorem dX0_setUp_35 : decode cX0_setUp 35 = .ok (.return_, 1) := by decide +kernel
theorem dX0_notice_0 : decode cX0_notice 0 = .ok (.aload_n 0, 1) := by decide +kernel
theorem dX0_notice_1 : decode cX0_notice 1 = .ok (.getfield 18, 3) := by decide +kernel
theorem dX0_notice_4 : decode cX0_notice 4 = .ok (.iload_n 1, 1) := by decide +kernel
theorem dX0_notice_5 : decode cX0_notice 5 = .ok (.iand, 1) := by decide +kernel
theorem dX0_notice_6 : decode cX0_notice 6 = .ok (.ifCond .ne 4, 3) := by decide +kernel
theorem dX0_notice_9 : decode cX0_notice 9 = .ok (.return_, 1) := by decide +kernel
theorem dX0_notice_10 : decode cX0_notice 10 = .ok (.aload_n 0, 1) := by decide +kernel
theorem dX0_notice_11 : decode cX0_notice 11 = .ok (.dup, 1) := by decide +kernel
theorem dX0_notice_12 : decode cX0_notice 12 = .ok (.getfield 21, 3) := by decide +kernel
theorem dX0_notice_15 : decode cX0_notice 15 = .ok (.iconst 1, 1) := by decide +kernel
theorem dX0_notice_16 : decode cX0_notice 16 = .ok (.iadd, 1) := by decide +kernel
theorem dX0_notice_17 : decode cX0_notice 17 = .ok (.putfield 21, 3) := by decide +kernel
theorem dX0_notice_20 : decode cX0_notice 20 = .ok (.aload_n 0, 1) := by decide +kernel
theorem dX0_notice_21 : decode cX0_notice 21 = .ok (.getfield 21, 3) := by decide +kernel
theorem dX0_notice_24 : decode cX0_notice 24 = .ok (.aload_n 0, 1) := by decide +kernel
theorem dX0_notice_25 : decode cX0_notice 25 = .ok (.getfield 9, 3) := by decide +kernel
theorem dX0_notice_28 : decode cX0_notice 28 = .ok (.irem, 1) := by decide +kernel
theorem dX0_notice_29 : decode cX0_notice 29 = .ok (.ifCond .ne 26, 3) := by decide +kernel
theorem dX0_notice_32 : decode cX0_notice 32 = .ok (.aload_n 0, 1) := by decide +kernel
theorem dX0_notice_33 : decode cX0_notice 33 = .ok (.dup, 1) := by decide +kernel
theorem dX0_notice_34 : decode cX0_notice 34 = .ok (.getfield 30, 3) := by decide +kernel
theorem dX0_notice_37 : decode cX0_notice 37 = .ok (.aload_n 0, 1) := by decide +kernel
theorem dX0_notice_38 : decode cX0_notice 38 = .ok (.getfield 27, 3) := by decide +kernel
theorem dX0_notice_41 : decode cX0_notice 41 = .ok (.iadd, 1) := by decide +kernel
theorem dX0_notice_42 : decode cX0_notice 42 = .ok (.putfield 30, 3) := by decide +kernel
theorem dX0_notice_45 : decode cX0_notice 45 = .ok (.aload_n 0, 1) := by decide +kernel
theorem dX0_notice_46 : decode cX0_notice 46 = .ok (.iload_n 2, 1) := by decide +kernel
theorem dX0_notice_47 : decode cX0_notice 47 = .ok (.putfield 24, 3) := by decide +kernel
theorem dX0_notice_50 : decode cX0_notice 50 = .ok (.aload_n 0, 1) := by decide +kernel
theorem dX0_notice_51 : decode cX0_notice 51 = .ok (.iconst 1, 1) := by decide +kernel
theorem dX0_notice_52 : decode cX0_notice 52 = .ok (.putfield 27, 3) := by decide +kernel
theorem dX0_notice_55 : decode cX0_notice 55 = .ok (.return_, 1) := by decide +kernel
theorem dX0_handOver_0 : decode cX0_handOver 0 = .ok (.aload_n 0, 1) := by decide +kernel
theorem dX0_handOver_1 : decode cX0_handOver 1 = .ok (.getfield 27, 3) := by decide +kernel
theorem dX0_handOver_4 : decode cX0_handOver 4 = .ok (.iconst 1, 1) := by decide +kernel
theorem dX0_handOver_5 : decode cX0_handOver 5 = .ok (.if_icmp .ne 10, 3) := by decide +kernel
theorem dX0_handOver_8 : decode cX0_handOver 8 = .ok (.aload_n 0, 1) := by decide +kernel
theorem dX0_handOver_9 : decode cX0_handOver 9 = .ok (.getfield 24, 3) := by decide +kernel
theorem dX0_handOver_12 : decode cX0_handOver 12 = .ok (.goto 5, 3) := by decide +kernel
theorem dX0_handOver_15 : decode cX0_handOver 15 = .ok (.bipush (-9), 2) := by decide +kernel
theorem dX0_handOver_17 : decode cX0_handOver 17 = .ok (.istore_n 1, 1) := by decide +kernel
theorem dX0_handOver_18 : decode cX0_handOver 18 = .ok (.aload_n 0, 1) := by decide +kernel
theorem dX0_handOver_19 : decode cX0_handOver 19 = .ok (.iconst 0, 1) := by decide +kernel
theorem dX0_handOver_20 : decode cX0_handOver 20 = .ok (.putfield 27, 3) := by decide +kernel
theorem dX0_handOver_23 : decode cX0_handOver 23 = .ok (.iload_n 1, 1) := by decide +kernel
theorem dX0_handOver_24 : decode cX0_handOver 24 = .ok (.ireturn, 1) := by decide +kernel
theorem dX0_tell_0 : decode cX0_tell 0 = .ok (.iload_n 1, 1) := by decide +kernel
theorem dX0_tell_1 : decode cX0_tell 1 = .ok (.tableswitch 78 0 6 #[43, 48, 53, 58, 63, 68, 73], 43) := by decide +kernel
theorem dX0_tell_44 : decode cX0_tell 44 = .ok (.aload_n 0, 1) := by decide +kernel
theorem dX0_tell_45 : decode cX0_tell 45 = .ok (.getfield 15, 3) := by decide +kernel
theorem dX0_tell_48 : decode cX0_tell 48 = .ok (.ireturn, 1) := by decide +kernel
theorem dX0_tell_49 : decode cX0_tell 49 = .ok (.aload_n 0, 1) := by decide +kernel
theorem dX0_tell_50 : decode cX0_tell 50 = .ok (.getfield 18, 3) := by decide +kernel
theorem dX0_tell_53 : decode cX0_tell 53 = .ok (.ireturn, 1) := by decide +kernel
theorem dX0_tell_54 : decode cX0_tell 54 = .ok (.aload_n 0, 1) := by decide +kernel
theorem dX0_tell_55 : decode cX0_tell 55 = .ok (.getfield 9, 3) := by decide +kernel
theorem dX0_tell_58 : decode cX0_tell 58 = .ok (.ireturn, 1) := by decide +kernel
theorem dX0_tell_59 : decode cX0_tell 59 = .ok (.aload_n 0, 1) := by decide +kernel
theorem dX0_tell_60 : decode cX0_tell 60 = .ok (.getfield 21, 3) := by decide +kernel
theorem dX0_tell_63 : decode cX0_tell 63 = .ok (.ireturn, 1) := by decide +kernel
theorem dX0_tell_64 : decode cX0_tell 64 = .ok (.aload_n 0, 1) := by decide +kernel
theorem dX0_tell_65 : decode cX0_tell 65 = .ok (.getfield 24, 3) := by decide +kernel
theorem dX0_tell_68 : decode cX0_tell 68 = .ok (.ireturn, 1) := by decide +kernel
theorem dX0_tell_69 : decode cX0_tell 69 = .ok (.aload_n 0, 1) := by decide +kernel
theorem dX0_tell_70 : decode cX0_tell 70 = .ok (.getfield 27, 3) := by decide +kernel
theorem dX0_tell_73 : decode cX0_tell 73 = .ok (.ireturn, 1) := by decide +kernel
theorem dX0_tell_74 : decode cX0_tell 74 = .ok (.aload_n 0, 1) := by decide +kernel
theorem dX0_tell_75 : decode cX0_tell 75 = .ok (.getfield 30, 3) := by decide +kernel
theorem dX0_tell_78 : decode cX0_tell 78 = .ok (.ireturn, 1) := by decide +kernel
theorem dX0_tell_79 : decode cX0_tell 79 = .ok (.bipush (-2), 2) := by decide +kernel
theorem dX0_tell_81 : decode cX0_tell 81 = .ok (.ireturn, 1) := by decide +kernel
theorem dX1_init_0 : decode cX1_init 0 = .ok (.aload_n 0, 1) := by decide +kernel
theorem dX1_init_1 : decode cX1_init 1 = .ok (.invokespecial 3, 3) := by decide +kernel
theorem dX1_init_4 : decode cX1_init 4 = .ok (.aload_n 0, 1) := by decide +kernel
theorem dX1_init_5 : decode cX1_init 5 = .ok (.iconst 0, 1) := by decide +kernel
theorem dX1_init_6 : decode cX1_init 6 = .ok (.putfield 9, 3) := by decide +kernel
theorem dX1_init_9 : decode cX1_init 9 = .ok (.return_, 1) := by decide +kernel
theorem dX1_setUp_0 : decode cX1_setUp 0 = .ok (.aload_n 0, 1) := by decide +kernel
theorem dX1_setUp_1 : decode cX1_setUp 1 = .ok (.iload_n 1, 1) := by decide +kernel
theorem dX1_setUp_2 : decode cX1_setUp 2 = .ok (.putfield 15, 3) := by decide +kernel
theorem dX1_setUp_5 : decode cX1_setUp 5 = .ok (.aload_n 0, 1) := by decide +kernel
theorem dX1_setUp_6 : decode cX1_setUp 6 = .ok (.iload_n 2, 1) := by decide +kernel
theorem dX1_setUp_7 : decode cX1_setUp 7 = .ok (.putfield 9, 3) := by decide +kernel
theorem dX1_setUp_10 : decode cX1_setUp 10 = .ok (.aload_n 0, 1) := by decide +kernel
theorem dX1_setUp_11 : decode cX1_setUp 11 = .ok (.iload_n 3, 1) := by decide +kernel
theorem dX1_setUp_12 : decode cX1_setUp 12 = .ok (.putfield 18, 3) := by decide +kernel
theorem dX1_setUp_15 : decode cX1_setUp 15 = .ok (.aload_n 0, 1) := by decide +kernel
theorem dX1_setUp_16 : decode cX1_setUp 16 = .ok (.iconst 0, 1) := by decide +kernel
theorem dX1_setUp_17 : decode cX1_setUp 17 = .ok (.putfield 21, 3) := by decide +kernel
theorem dX1_setUp_20 : decode cX1_setUp 20 = .ok (.aload_n 0, 1) := by decide +kernel
theorem dX1_setUp_21 : decode cX1_setUp 21 = .ok (.iconst 0, 1) := by decide +kernel
theorem dX1_setUp_22 : decode cX1_setUp 22 = .ok (.putfield 24, 3) := by decide +kernel
theorem dX1_setUp_25 : decode cX1_setUp 25 = .ok (.return_, 1) := by decide +kernel
theorem dX1_shapeOutputs_0 : decode cX1_shapeOutputs 0 = .ok (.aload_n 0, 1) := by decide +kernel
theorem dX1_shapeOutputs_1 : decode cX1_shapeOutputs 1 = .ok (.iload_n 1, 1) := by decide +kernel
theorem dX1_shapeOutputs_2 : decode cX1_shapeOutputs 2 = .ok (.putfield 27, 3) := by decide +kernel
theorem dX1_shapeOutputs_5 : decode cX1_shapeOutputs 5 = .ok (.aload_n 0, 1) := by decide +kernel
theorem dX1_shapeOutputs_6 : decode cX1_shapeOutputs 6 = .ok (.iload_n 2, 1) := by decide +kernel
theorem dX1_shapeOutputs_7 : decode cX1_shapeOutputs 7 = .ok (.putfield 30, 3) := by decide +kernel
theorem dX1_shapeOutputs_10 : decode cX1_shapeOutputs 10 = .ok (.aload_n 0, 1) := by decide +kernel
theorem dX1_shapeOutputs_11 : decode cX1_shapeOutputs 11 = .ok (.iload_n 3, 1) := by decide +kernel
theorem dX1_shapeOutputs_12 : decode cX1_shapeOutputs 12 = .ok (.putfield 33, 3) := by decide +kernel
theorem dX1_shapeOutputs_15 : decode cX1_shapeOutputs 15 = .ok (.return_, 1) := by decide +kernel
set_option maxRecDepth 20000 in
theorem ggX1_follow_X1_nextLevel : GoodIn wsX1_follow wsX1_nextLevel := goodIn_r _ [11, 12, 13, 14, 15, 1, 24, 25, 26, 27, 28, 29, 30, 31, 32, 33, 34, 16, 17, 18, 19, 20, 21, 22, 23] (by decide +kernel) (by decide +kernel)
set_option maxRecDepth 20000 in
theorem gX1_follow_X1_nextLevel : GoodIn wsX1_follow (wsV RX1 36 RX1 yX1_nextLevel wsX1_nextLevel) := goodIn_app (goodIn_of _ (by decide +kernel)) ggX1_follow_X1_nextLevel
theorem dX1_follow_0 : decode cX1_follow 0 = .ok (.aload_n 0, 1) := by decide +kernel
theorem dX1_follow_1 : decode cX1_follow 1 = .ok (.getfield 21, 3) := by decide +kernel
theorem dX1_follow_4 : decode cX1_follow 4 = .ok (.istore_n 2, 1) := by decide +kernel
theorem dX1_follow_5 : decode cX1_follow 5 = .ok (.aload_n 0, 1) := by decide +kernel
theorem dX1_follow_6 : decode cX1_follow 6 = .ok (.aload_n 0, 1) := by decide +kernel
theorem dX1_follow_7 : decode cX1_follow 7 = .ok (.aload_n 1, 1) := by decide +kernel
theorem dX1_follow_8 : decode cX1_follow 8 = .ok (.invokevirtual 36, 3) := by decide +kernel
theorem dX1_follow_11 : decode cX1_follow 11 = .ok (.putfield 21, 3) := by decide +kernel
theorem dX1_follow_14 : decode cX1_follow 14 = .ok (.aload_n 0, 1) := by decide +kernel
theorem dX1_follow_15 : decode cX1_follow 15 = .ok (.aload_n 0, 1) := by decide +kernel
theorem dX1_follow_16 : decode cX1_follow 16 = .ok (.getfield 21, 3) := by decide +kernel
theorem dX1_follow_19 : decode cX1_follow 19 = .ok (.iload_n 2, 1) := by decide +kernel
theorem dX1_follow_20 : decode cX1_follow 20 = .ok (.if_icmp .ne 17, 3) := by decide +kernel
theorem dX1_follow_23 : decode cX1_follow 23 = .ok (.aload_n 0, 1) := by decide +kernel
theorem dX1_follow_24 : decode cX1_follow 24 = .ok (.getfield 24, 3) := by decide +kernel
theorem dX1_follow_27 : decode cX1_follow 27 = .ok (.iconst 1, 1) := by decide +kernel
theorem dX1_follow_28 : decode cX1_follow 28 = .ok (.iadd, 1) := by decide +kernel
theorem dX1_follow_29 : decode cX1_follow 29 = .ok (.bipush 99, 2) := by decide +kernel
theorem dX1_follow_31 : decode cX1_follow 31 = .ok (.invokestatic 40, 3) := by decide +kernel
theorem dX1_follow_34 : decode cX1_follow 34 = .ok (.goto 4, 3) := by decide +kernel
theorem dX1_follow_37 : decode cX1_follow 37 = .ok (.iconst 1, 1) := by decide +kernel
theorem dX1_follow_38 : decode cX1_follow 38 = .ok (.putfield 24, 3) := by decide +kernel
theorem dX1_follow_41 : decode cX1_follow 41 = .ok (.return_, 1) := by decide +kernel
theorem dX1_nextLevel_0 : decode cX1_nextLevel 0 = .ok (.aload_n 1, 1) := by decide +kernel
theorem dX1_nextLevel_1 : decode cX1_nextLevel 1 = .ok (.getfield 46, 3) := by decide +kernel
theorem dX1_nextLevel_4 : decode cX1_nextLevel 4 = .ok (.ifCond .eq 18, 3) := by decide +kernel
theorem dX1_nextLevel_7 : decode cX1_nextLevel 7 = .ok (.aload_n 1, 1) := by decide +kernel
theorem dX1_nextLevel_8 : decode cX1_nextLevel 8 = .ok (.getfield 52, 3) := by decide +kernel
theorem dX1_nextLevel_11 : decode cX1_nextLevel 11 = .ok (.aload_n 0, 1) := by decide +kernel
theorem dX1_nextLevel_12 : decode cX1_nextLevel 12 = .ok (.getfield 18, 3) := by decide +kernel
theorem dX1_nextLevel_15 : decode cX1_nextLevel 15 = .ok (.if_icmp .ne 7, 3) := by decide +kernel
theorem dX1_nextLevel_18 : decode cX1_nextLevel 18 = .ok (.iconst 1, 1) := by decide +kernel
theorem dX1_nextLevel_19 : decode cX1_nextLevel 19 = .ok (.goto 4, 3) := by decide +kernel
theorem dX1_nextLevel_22 : decode cX1_nextLevel 22 = .ok (.iconst 0, 1) := by decide +kernel
theorem dX1_nextLevel_23 : decode cX1_nextLevel 23 = .ok (.istore_n 2, 1) := by decide +kernel
theorem dX1_nextLevel_24 : decode cX1_nextLevel 24 = .ok (.aload_n 0, 1) := by decide +kernel
theorem dX1_nextLevel_25 : decode cX1_nextLevel 25 = .ok (.getfield 9, 3) := by decide +kernel
theorem dX1_nextLevel_28 : decode cX1_nextLevel 28 = .ok (.tableswitch 97 1 4 #[32, 49, 66, 84], 32) := by decide +kernel
theorem dX1_nextLevel_60 : decode cX1_nextLevel 60 = .ok (.aload_n 1, 1) := by decide +kernel
theorem dX1_nextLevel_61 : decode cX1_nextLevel 61 = .ok (.getfield 52, 3) := by decide +kernel
theorem dX1_nextLevel_64 : decode cX1_nextLevel 64 = .ok (.aload_n 0, 1) := by decide +kernel
theorem dX1_nextLevel_65 : decode cX1_nextLevel 65 = .ok (.getfield 18, 3) := by decide +kernel
theorem dX1_nextLevel_68 : decode cX1_nextLevel 68 = .ok (.if_icmp .ge 7, 3) := by decide +kernel
theorem dX1_nextLevel_71 : decode cX1_nextLevel 71 = .ok (.iconst 1, 1) := by decide +kernel
theorem dX1_nextLevel_72 : decode cX1_nextLevel 72 = .ok (.goto 4, 3) := by decide +kernel
theorem dX1_nextLevel_75 : decode cX1_nextLevel 75 = .ok (.iconst 0, 1) := by decide +kernel
theorem dX1_nextLevel_76 : decode cX1_nextLevel 76 = .ok (.ireturn, 1) := by decide +kernel
theorem dX1_nextLevel_77 : decode cX1_nextLevel 77 = .ok (.aload_n 1, 1) := by decide +kernel
theorem dX1_nextLevel_78 : decode cX1_nextLevel 78 = .ok (.getfield 52, 3) := by decide +kernel
theorem dX1_nextLevel_81 : decode cX1_nextLevel 81 = .ok (.aload_n 0, 1) := by decide +kernel
theorem dX1_nextLevel_82 : decode cX1_nextLevel 82 = .ok (.getfield 18, 3) := by decide +kernel
theorem dX1_nextLevel_85 : decode cX1_nextLevel 85 = .ok (.if_icmp .lt 7, 3) := by decide +kernel
theorem dX1_nextLevel_88 : decode cX1_nextLevel 88 = .ok (.iconst 1, 1) := by decide +kernel
theorem dX1_nextLevel_89 : decode cX1_nextLevel 89 = .ok (.goto 4, 3) := by decide +kernel
theorem dX1_nextLevel_92 : decode cX1_nextLevel 92 = .ok (.iconst 0, 1) := by decide +kernel
theorem dX1_nextLevel_93 : decode cX1_nextLevel 93 = .ok (.ireturn, 1) := by decide +kernel
theorem dX1_nextLevel_94 : decode cX1_nextLevel 94 = .ok (.iload_n 2, 1) := by decide +kernel
theorem dX1_nextLevel_95 : decode cX1_nextLevel 95 = .ok (.ifCond .eq 12, 3) := by decide +kernel
theorem dX1_nextLevel_98 : decode cX1_nextLevel 98 = .ok (.iconst 1, 1) := by decide +kernel
theorem dX1_nextLevel_99 : decode cX1_nextLevel 99 = .ok (.aload_n 0, 1) := by decide +kernel
theorem dX1_nextLevel_100 : decode cX1_nextLevel 100 = .ok (.getfield 21, 3) := by decide +kernel
theorem dX1_nextLevel_103 : decode cX1_nextLevel 103 = .ok (.isub, 1) := by decide +kernel
theorem dX1_nextLevel_104 : decode cX1_nextLevel 104 = .ok (.goto 7, 3) := by decide +kernel
theorem dX1_nextLevel_107 : decode cX1_nextLevel 107 = .ok (.aload_n 0, 1) := by decide +kernel
theorem dX1_nextLevel_108 : decode cX1_nextLevel 108 = .ok (.getfield 21, 3) := by decide +kernel
theorem dX1_nextLevel_111 : decode cX1_nextLevel 111 = .ok (.ireturn, 1) := by decide +kernel
theorem dX1_nextLevel_112 : decode cX1_nextLevel 112 = .ok (.iload_n 2, 1) := by decide +kernel
theorem dX1_nextLevel_113 : decode cX1_nextLevel 113 = .ok (.ifCond .eq 7, 3) := by decide +kernel
theorem dX1_nextLevel_116 : decode cX1_nextLevel 116 = .ok (.iconst 1, 1) := by decide +kernel
theorem dX1_nextLevel_117 : decode cX1_nextLevel 117 = .ok (.goto 7, 3) := by decide +kernel
theorem dX1_nextLevel_120 : decode cX1_nextLevel 120 = .ok (.aload_n 0, 1) := by decide +kernel
theorem dX1_nextLevel_121 : decode cX1_nextLevel 121 = .ok (.getfield 21, 3) := by decide +kernel
theorem dX1_nextLevel_124 : decode cX1_nextLevel 124 = .ok (.ireturn, 1) := by decide +kernel
theorem dX1_nextLevel_125 : decode cX1_nextLevel 125 = .ok (.iconst 0, 1) := by decide +kernel
theorem dX1_nextLevel_126 : decode cX1_nextLevel 126 = .ok (.ireturn, 1) := by decide +kernel
theorem dX1_outputsOn_0 : decode cX1_outputsOn 0 = .ok (.aload_n 0, 1) := by decide +kernel
theorem dX1_outputsOn_1 : decode cX1_outputsOn 1 = .ok (.getfield 9, 3) := by decide +kernel
theorem dX1_outputsOn_4 : decode cX1_outputsOn 4 = .ok (.ifCond .eq 18, 3) := by decide +kernel
theorem dX1_outputsOn_7 : decode cX1_outputsOn 7 = .ok (.iload_n 1, 1) := by decide +kernel
theorem dX1_outputsOn_8 : decode cX1_outputsOn 8 = .ok (.ifCond .ne 14, 3) := by decide +kernel
theorem dX1_outputsOn_11 : decode cX1_outputsOn 11 = .ok (.aload_n 0, 1) := by decide +kernel
theorem dX1_outputsOn_12 : decode cX1_outputsOn 12 = .ok (.getfield 24, 3) := by decide +kernel
theorem dX1_outputsOn_15 : decode cX1_outputsOn 15 = .ok (.aload_n 0, 1) := by decide +kernel
theorem dX1_outputsOn_16 : decode cX1_outputsOn 16 = .ok (.getfield 27, 3) := by decide +kernel
theorem dX1_outputsOn_19 : decode cX1_outputsOn 19 = .ok (.if_icmp .gt 5, 3) := by decide +kernel
theorem dX1_outputsOn_22 : decode cX1_outputsOn 22 = .ok (.iconst 0, 1) := by decide +kernel
theorem dX1_outputsOn_23 : decode cX1_outputsOn 23 = .ok (.ireturn, 1) := by decide +kernel
theorem dX1_outputsOn_24 : decode cX1_outputsOn 24 = .ok (.aload_n 0, 1) := by decide +kernel
theorem dX1_outputsOn_25 : decode cX1_outputsOn 25 = .ok (.getfield 21, 3) := by decide +kernel
theorem dX1_outputsOn_28 : decode cX1_outputsOn 28 = .ok (.iconst 1, 1) := by decide +kernel
theorem dX1_outputsOn_29 : decode cX1_outputsOn 29 = .ok (.if_icmp .ne 7, 3) := by decide +kernel
theorem dX1_outputsOn_32 : decode cX1_outputsOn 32 = .ok (.iconst 1, 1) := by decide +kernel
theorem dX1_outputsOn_33 : decode cX1_outputsOn 33 = .ok (.goto 4, 3) := by decide +kernel
theorem dX1_outputsOn_36 : decode cX1_outputsOn 36 = .ok (.iconst 2, 1) := by decide +kernel
theorem dX1_outputsOn_37 : decode cX1_outputsOn 37 = .ok (.ireturn, 1) := by decide +kernel
set_option maxRecDepth 20000 in
theorem ggX1_pinLevel_X1_outputsOn : GoodIn wsX1_pinLevel wsX1_outputsOn := goodIn_r _ [7, 8, 9, 10, 11, 12, 13, 14, 15, 16, 17, 18, 19] (by decide +kernel) (by decide +kernel)
set_option maxRecDepth 20000 in
theorem gX1_pinLevel_X1_outputsOn : GoodIn wsX1_pinLevel (wsV RX1 55 RX1 yX1_outputsOn wsX1_outputsOn) := goodIn_app (goodIn_of _ (by decide +kernel)) ggX1_pinLevel_X1_outputsOn
theorem dX1_pinLevel_0 : decode cX1_pinLevel 0 = .ok (.iload_n 2, 1) := by decide +kernel
theorem dX1_pinLevel_1 : decode cX1_pinLevel 1 = .ok (.ifCond .eq 10, 3) := by decide +kernel
theorem dX1_pinLevel_4 : decode cX1_pinLevel 4 = .ok (.aload_n 0, 1) := by decide +kernel
theorem dX1_pinLevel_5 : decode cX1_pinLevel 5 = .ok (.getfield 33, 3) := by decide +kernel
theorem dX1_pinLevel_8 : decode cX1_pinLevel 8 = .ok (.goto 13, 3) := by decide +kernel
theorem dX1_pinLevel_11 : decode cX1_pinLevel 11 = .ok (.aload_n 0, 1) := by decide +kernel
theorem dX1_pinLevel_12 : decode cX1_pinLevel 12 = .ok (.iconst 0, 1) := by decide +kernel
theorem dX1_pinLevel_13 : decode cX1_pinLevel 13 = .ok (.invokevirtual 55, 3) := by decide +kernel
theorem dX1_pinLevel_16 : decode cX1_pinLevel 16 = .ok (.aload_n 0, 1) := by decide +kernel
theorem dX1_pinLevel_17 : decode cX1_pinLevel 17 = .ok (.getfield 30, 3) := by decide +kernel
theorem dX1_pinLevel_20 : decode cX1_pinLevel 20 = .ok (.ixor, 1) := by decide +kernel
theorem dX1_pinLevel_21 : decode cX1_pinLevel 21 = .ok (.istore_n 3, 1) := by decide +kernel
theorem dX1_pinLevel_22 : decode cX1_pinLevel 22 = .ok (.iload_n 3, 1) := by decide +kernel
theorem dX1_pinLevel_23 : decode cX1_pinLevel 23 = .ok (.iload_n 1, 1) := by decide +kernel
theorem dX1_pinLevel_24 : decode cX1_pinLevel 24 = .ok (.ishr, 1) := by decide +kernel
theorem dX1_pinLevel_25 : decode cX1_pinLevel 25 = .ok (.iconst 1, 1) := by decide +kernel
theorem dX1_pinLevel_26 : decode cX1_pinLevel 26 = .ok (.iand, 1) := by decide +kernel
theorem dX1_pinLevel_27 : decode cX1_pinLevel 27 = .ok (.ireturn, 1) := by decide +kernel
set_option maxRecDepth 20000 in
theorem ggX1_tell_X1_outputsOn : GoodIn wsX1_tell wsX1_outputsOn := goodIn_r _ [13, 2, 5, 6, 4, 14, 15, 16, 17, 18, 19, 20, 21] (by decide +kernel) (by decide +kernel)
set_option maxRecDepth 20000 in
theorem gX1_tell_X1_outputsOn : GoodIn wsX1_tell (wsV RX1 55 RX1 yX1_outputsOn wsX1_outputsOn) := goodIn_app (goodIn_of _ (by decide +kernel)) ggX1_tell_X1_outputsOn
theorem dX1_tell_0 : decode cX1_tell 0 = .ok (.iload_n 1, 1) := by decide +kernel
theorem dX1_tell_1 : decode cX1_tell 1 = .ok (.tableswitch 97 0 8 #[51, 56, 61, 66, 71, 76, 81, 86, 91], 51) := by decide +kernel
theorem dX1_tell_52 : decode cX1_tell 52 = .ok (.aload_n 0, 1) := by decide +kernel
theorem dX1_tell_53 : decode cX1_tell 53 = .ok (.getfield 15, 3) := by decide +kernel
theorem dX1_tell_56 : decode cX1_tell 56 = .ok (.ireturn, 1) := by decide +kernel
theorem dX1_tell_57 : decode cX1_tell 57 = .ok (.aload_n 0, 1) := by decide +kernel
theorem dX1_tell_58 : decode cX1_tell 58 = .ok (.getfield 9, 3) := by decide +kernel
theorem dX1_tell_61 : decode cX1_tell 61 = .ok (.ireturn, 1) := by decide +kernel
theorem dX1_tell_62 : decode cX1_tell 62 = .ok (.aload_n 0, 1) := by decide +kernel
theorem dX1_tell_63 : decode cX1_tell 63 = .ok (.getfield 18, 3) := by decide +kernel
theorem dX1_tell_66 : decode cX1_tell 66 = .ok (.ireturn, 1) := by decide +kernel
theorem dX1_tell_67 : decode cX1_tell 67 = .ok (.aload_n 0, 1) := by decide +kernel
theorem dX1_tell_68 : decode cX1_tell 68 = .ok (.getfield 21, 3) := by decide +kernel
theorem dX1_tell_71 : decode cX1_tell 71 = .ok (.ireturn, 1) := by decide +kernel
theorem dX1_tell_72 : decode cX1_tell 72 = .ok (.aload_n 0, 1) := by decide +kernel
theorem dX1_tell_73 : decode cX1_tell 73 = .ok (.getfield 24, 3) := by decide +kernel
theorem dX1_tell_76 : decode cX1_tell 76 = .ok (.ireturn, 1) := by decide +kernel
theorem dX1_tell_77 : decode cX1_tell 77 = .ok (.aload_n 0, 1) := by decide +kernel
theorem dX1_tell_78 : decode cX1_tell 78 = .ok (.getfield 27, 3) := by decide +kernel
theorem dX1_tell_81 : decode cX1_tell 81 = .ok (.ireturn, 1) := by decide +kernel
theorem dX1_tell_82 : decode cX1_tell 82 = .ok (.aload_n 0, 1) := by decide +kernel
theorem dX1_tell_83 : decode cX1_tell 83 = .ok (.getfield 30, 3) := by decide +kernel
theorem dX1_tell_86 : decode cX1_tell 86 = .ok (.ireturn, 1) := by decide +kernel
theorem dX1_tell_87 : decode cX1_tell 87 = .ok (.aload_n 0, 1) := by decide +kernel
theorem dX1_tell_88 : decode cX1_tell 88 = .ok (.getfield 33, 3) := by decide +kernel
theorem dX1_tell_91 : decode cX1_tell 91 = .ok (.ireturn, 1) := by decide +kernel
theorem dX1_tell_92 : decode cX1_tell 92 = .ok (.aload_n 0, 1) := by decide +kernel
theorem dX1_tell_93 : decode cX1_tell 93 = .ok (.iload_n 2, 1) := by decide +kernel
theorem dX1_tell_94 : decode cX1_tell 94 = .ok (.invokevirtual 55, 3) := by decide +kernel
theorem dX1_tell_97 : decode cX1_tell 97 = .ok (.ireturn, 1) := by decide +kernel
theorem dX1_tell_98 : decode cX1_tell 98 = .ok (.bipush (-2), 2) := by decide +kernel
theorem dX1_tell_100 : decode cX1_tell 100 = .ok (.ireturn, 1) := by decide +kernel
theorem dX2_init_0 : decode cX2_init 0 = .ok (.aload_n 0, 1) := by decide +kernel
theorem dX2_init_1 : decode cX2_init 1 = .ok (.invokespecial 3, 3) := by decide +kernel
theorem dX2_init_4 : decode cX2_init 4 = .ok (.aload_n 0, 1) := by decide +kernel
theorem dX2_init_5 : decode cX2_init 5 = .ok (.iconst 0, 1) := by decide +kernel
theorem dX2_init_6 : decode cX2_init 6 = .ok (.putfield 9, 3) := by decide +kernel
theorem dX2_init_9 : decode cX2_init 9 = .ok (.aload_n 0, 1) := by decide +kernel
theorem dX2_init_10 : decode cX2_init 10 = .ok (.bipush 99, 2) := by decide +kernel
theorem dX2_init_12 : decode cX2_init 12 = .ok (.putfield 15, 3) := by decide +kernel
theorem dX2_init_15 : decode cX2_init 15 = .ok (.aload_n 0, 1) := by decide +kernel
theorem dX2_init_16 : decode cX2_init 16 = .ok (.iconst 1, 1) := by decide +kernel
theorem dX2_init_17 : decode cX2_init 17 = .ok (.putfield 18, 3) := by decide +kernel
theorem dX2_init_20 : decode cX2_init 20 = .ok (.aload_n 0, 1) := by decide +kernel
theorem dX2_init_21 : decode cX2_init 21 = .ok (.iconst 0, 1) := by decide +kernel
theorem dX2_init_22 : decode cX2_init 22 = .ok (.putfield 21, 3) := by decide +kernel
theorem dX2_init_25 : decode cX2_init 25 = .ok (.aload_n 0, 1) := by decide +kernel
theorem dX2_init_26 : decode cX2_init 26 = .ok (.iconst 1, 1) := by decide +kernel
theorem dX2_init_27 : decode cX2_init 27 = .ok (.putfield 24, 3) := by decide +kernel
theorem dX2_init_30 : decode cX2_init 30 = .ok (.aload_n 0, 1) := by decide +kernel
theorem dX2_init_31 : decode cX2_init 31 = .ok (.bipush (-9), 2) := by decide +kernel
theorem dX2_init_33 : decode cX2_init 33 = .ok (.putfield 27, 3) := by decide +kernel
theorem dX2_init_36 : decode cX2_init 36 = .ok (.return_, 1) := by decide +kernel
theorem dX2_setUp_0 : decode cX2_setUp 0 = .ok (.aload_n 0, 1) := by decide +kernel
theorem dX2_setUp_1 : decode cX2_setUp 1 = .ok (.iload_n 1, 1) := by decide +kernel
theorem dX2_setUp_2 : decode cX2_setUp 2 = .ok (.putfield 9, 3) := by decide +kernel
theorem dX2_setUp_5 : decode cX2_setUp 5 = .ok (.aload_n 0, 1) := by decide +kernel
theorem dX2_setUp_6 : decode cX2_setUp 6 = .ok (.iload_n 2, 1) := by decide +kernel
theorem dX2_setUp_7 : decode cX2_setUp 7 = .ok (.putfield 15, 3) := by decide +kernel
theorem dX2_setUp_10 : decode cX2_setUp 10 = .ok (.aload_n 0, 1) := by decide +kernel
theorem dX2_setUp_11 : decode cX2_setUp 11 = .ok (.iload_n 3, 1) := by decide +kernel
theorem dX2_setUp_12 : decode cX2_setUp 12 = .ok (.putfield 18, 3) := by decide +kernel
theorem dX2_setUp_15 : decode cX2_setUp 15 = .ok (.aload_n 0, 1) := by decide +kernel
theorem dX2_setUp_16 : decode cX2_setUp 16 = .ok (.iconst 0, 1) := by decide +kernel
theorem dX2_setUp_17 : decode cX2_setUp 17 = .ok (.putfield 30, 3) := by decide +kernel
theorem dX2_setUp_20 : decode cX2_setUp 20 = .ok (.aload_n 0, 1) := by decide +kernel
theorem dX2_setUp_21 : decode cX2_setUp 21 = .ok (.iconst 0, 1) := by decide +kernel
theorem dX2_setUp_22 : decode cX2_setUp 22 = .ok (.putfield 33, 3) := by decide +kernel
theorem dX2_setUp_25 : decode cX2_setUp 25 = .ok (.aload_n 0, 1) := by decide +kernel
theorem dX2_setUp_26 : decode cX2_setUp 26 = .ok (.iconst 1, 1) := by decide +kernel
theorem dX2_setUp_27 : decode cX2_setUp 27 = .ok (.putfield 24, 3) := by decide +kernel
theorem dX2_setUp_30 : decode cX2_setUp 30 = .ok (.aload_n 0, 1) := by decide +kernel
theorem dX2_setUp_31 : decode cX2_setUp 31 = .ok (.iconst 0, 1) := by decide +kernel
theorem dX2_setUp_32 : decode cX2_setUp 32 = .ok (.putfield 36, 3) := by decide +kernel
theorem dX2_setUp_35 : decode cX2_setUp 35 = .ok (.aload_n 0, 1) := by decide +kernel
theorem dX2_setUp_36 : decode cX2_setUp 36 = .ok (.bipush (-9), 2) := by decide +kernel
theorem dX2_setUp_38 : decode cX2_setUp 38 = .ok (.putfield 27, 3) := by decide +kernel
theorem dX2_setUp_41 : decode cX2_setUp 41 = .ok (.return_, 1) := by decide +kernel
set_option maxRecDepth 20000 in
theorem ggX2_pass_X2_step : GoodIn wsX2_pass wsX2_step := goodIn_r _ [9, 2, 10, 11, 12, 13, 8, 14, 15, 16, 17, 18, 19, 20, 1, 21, 22, 23, 24, 25, 26, 27, 28, 29, 30, 31, 32, 33, 34, 35, 36, 37, 38, 39, 40, 41, 42, 43, 44, 45, 46] (by decide +kernel) (by decide +kernel)
set_option maxRecDepth 20000 in
theorem gX2_pass_X2_step : GoodIn wsX2_pass (wsV RX2 46 RX2 yX2_step wsX2_step) := goodIn_app (goodIn_of _ (by decide +kernel)) ggX2_pass_X2_step
theorem dX2_pass_0 : decode cX2_pass 0 = .ok (.aload_n 0, 1) := by decide +kernel
theorem dX2_pass_1 : decode cX2_pass 1 = .ok (.iconst 0, 1) := by decide +kernel
theorem dX2_pass_2 : decode cX2_pass 2 = .ok (.putfield 39, 3) := by decide +kernel
theorem dX2_pass_5 : decode cX2_pass 5 = .ok (.aload_n 0, 1) := by decide +kernel
theorem dX2_pass_6 : decode cX2_pass 6 = .ok (.iconst 0, 1) := by decide +kernel
theorem dX2_pass_7 : decode cX2_pass 7 = .ok (.putfield 43, 3) := by decide +kernel
theorem dX2_pass_10 : decode cX2_pass 10 = .ok (.iload_n 1, 1) := by decide +kernel
theorem dX2_pass_11 : decode cX2_pass 11 = .ok (.ifCond .eq 33, 3) := by decide +kernel
theorem dX2_pass_14 : decode cX2_pass 14 = .ok (.aload_n 0, 1) := by decide +kernel
theorem dX2_pass_15 : decode cX2_pass 15 = .ok (.dup, 1) := by decide +kernel
theorem dX2_pass_16 : decode cX2_pass 16 = .ok (.getfield 33, 3) := by decide +kernel
theorem dX2_pass_19 : decode cX2_pass 19 = .ok (.iconst 1, 1) := by decide +kernel
theorem dX2_pass_20 : decode cX2_pass 20 = .ok (.iadd, 1) := by decide +kernel
theorem dX2_pass_21 : decode cX2_pass 21 = .ok (.putfield 33, 3) := by decide +kernel
theorem dX2_pass_24 : decode cX2_pass 24 = .ok (.aload_n 0, 1) := by decide +kernel
theorem dX2_pass_25 : decode cX2_pass 25 = .ok (.getfield 33, 3) := by decide +kernel
theorem dX2_pass_28 : decode cX2_pass 28 = .ok (.aload_n 0, 1) := by decide +kernel
theorem dX2_pass_29 : decode cX2_pass 29 = .ok (.getfield 18, 3) := by decide +kernel
theorem dX2_pass_32 : decode cX2_pass 32 = .ok (.if_icmp .ne 12, 3) := by decide +kernel
theorem dX2_pass_35 : decode cX2_pass 35 = .ok (.aload_n 0, 1) := by decide +kernel
theorem dX2_pass_36 : decode cX2_pass 36 = .ok (.iconst 0, 1) := by decide +kernel
theorem dX2_pass_37 : decode cX2_pass 37 = .ok (.putfield 33, 3) := by decide +kernel
theorem dX2_pass_40 : decode cX2_pass 40 = .ok (.aload_n 0, 1) := by decide +kernel
theorem dX2_pass_41 : decode cX2_pass 41 = .ok (.invokevirtual 46, 3) := by decide +kernel
theorem dX2_pass_44 : decode cX2_pass 44 = .ok (.return_, 1) := by decide +kernel
set_option maxRecDepth 20000 in
theorem ggX2_step_X2_stepUp : GoodIn wsX2_step wsX2_stepUp := goodIn_r _ [7, 8, 9, 10, 11, 12, 6, 13, 14, 15, 16, 17, 18, 19, 20, 30, 31, 32, 33, 34, 35, 36, 37, 38, 39, 40] (by decide +kernel) (by decide +kernel)
set_option maxRecDepth 20000 in
theorem gX2_step_X2_stepUp : GoodIn wsX2_step (wsV RX2 49 RX2 yX2_stepUp wsX2_stepUp) := goodIn_app (goodIn_of _ (by decide +kernel)) ggX2_step_X2_stepUp
set_option maxRecDepth 20000 in
theorem ggX2_step_X2_stepDown : GoodIn wsX2_step wsX2_stepDown := goodIn_r _ [24, 8, 9, 10, 11, 12, 6, 13, 14, 15, 16, 17, 18, 19, 20, 30, 31, 32, 33, 34, 35, 36, 37, 38, 39, 40] (by decide +kernel) (by decide +kernel)
set_option maxRecDepth 20000 in
theorem gX2_step_X2_stepDown : GoodIn wsX2_step (wsV RX2 52 RX2 yX2_stepDown wsX2_stepDown) := goodIn_app (goodIn_of _ (by decide +kernel)) ggX2_step_X2_stepDown
set_option maxRecDepth 20000 in
theorem ggX2_step_X2_stepBothWays : GoodIn wsX2_step wsX2_stepBothWays := goodIn_r _ [28, 29, 8, 9, 10, 11, 12, 6, 13, 14, 15, 16, 17, 18, 19, 20, 30, 31, 32, 33, 34, 35, 36, 37, 38, 39, 40] (by decide +kernel) (by decide +kernel)
set_option maxRecDepth 20000 in
theorem gX2_step_X2_stepBothWays : GoodIn wsX2_step (wsV RX2 55 RX2 yX2_stepBothWays wsX2_stepBothWays) := goodIn_app (goodIn_of _ (by decide +kernel)) ggX2_step_X2_stepBothWays
theorem dX2_step_0 : decode cX2_step 0 = .ok (.aload_n 0, 1) := by decide +kernel
theorem dX2_step_1 : decode cX2_step 1 = .ok (.iconst 1, 1) := by decide +kernel
theorem dX2_step_2 : decode cX2_step 2 = .ok (.putfield 43, 3) := by decide +kernel
theorem dX2_step_5 : decode cX2_step 5 = .ok (.aload_n 0, 1) := by decide +kernel
theorem dX2_step_6 : decode cX2_step 6 = .ok (.getfield 9, 3) := by decide +kernel
theorem dX2_step_9 : decode cX2_step 9 = .ok (.lookupswitch 41 #[(0, 27), (1, 34)], 27) := by decide +kernel
theorem dX2_step_36 : decode cX2_step 36 = .ok (.aload_n 0, 1) := by decide +kernel
theorem dX2_step_37 : decode cX2_step 37 = .ok (.invokevirtual 49, 3) := by decide +kernel
theorem dX2_step_40 : decode cX2_step 40 = .ok (.goto 14, 3) := by decide +kernel
theorem dX2_step_43 : decode cX2_step 43 = .ok (.aload_n 0, 1) := by decide +kernel
theorem dX2_step_44 : decode cX2_step 44 = .ok (.invokevirtual 52, 3) := by decide +kernel
theorem dX2_step_47 : decode cX2_step 47 = .ok (.goto 7, 3) := by decide +kernel
theorem dX2_step_50 : decode cX2_step 50 = .ok (.aload_n 0, 1) := by decide +kernel
theorem dX2_step_51 : decode cX2_step 51 = .ok (.invokevirtual 55, 3) := by decide +kernel
theorem dX2_step_54 : decode cX2_step 54 = .ok (.return_, 1) := by decide +kernel
set_option maxRecDepth 20000 in
theorem ggX2_stepUp_X2_goOver : GoodIn wsX2_stepUp wsX2_goOver := goodIn_r _ [7, 8, 9, 15, 16, 17, 18, 19, 20, 21, 22, 23, 24, 25] (by decide +kernel) (by decide +kernel)
set_option maxRecDepth 20000 in
theorem gX2_stepUp_X2_goOver : GoodIn wsX2_stepUp (wsV RX2 58 RX2 yX2_goOver wsX2_goOver) := goodIn_app (goodIn_of _ (by decide +kernel)) ggX2_stepUp_X2_goOver
set_option maxRecDepth 20000 in
theorem ggX2_stepUp_X2_takeWaitingTop : GoodIn wsX2_stepUp wsX2_takeWaitingTop := goodIn_r _ [13, 14, 2, 15, 16, 17, 18, 19, 20, 21, 22, 23, 24, 25] (by decide +kernel) (by decide +kernel)
set_option maxRecDepth 20000 in
theorem gX2_stepUp_X2_takeWaitingTop : GoodIn wsX2_stepUp (wsV RX2 61 RX2 yX2_takeWaitingTop wsX2_takeWaitingTop) := goodIn_app (goodIn_of _ (by decide +kernel)) ggX2_stepUp_X2_takeWaitingTop
theorem dX2_stepUp_0 : decode cX2_stepUp 0 = .ok (.aload_n 0, 1) := by decide +kernel
theorem dX2_stepUp_1 : decode cX2_stepUp 1 = .ok (.getfield 30, 3) := by decide +kernel
theorem dX2_stepUp_4 : decode cX2_stepUp 4 = .ok (.aload_n 0, 1) := by decide +kernel
theorem dX2_stepUp_5 : decode cX2_stepUp 5 = .ok (.getfield 15, 3) := by decide +kernel
theorem dX2_stepUp_8 : decode cX2_stepUp 8 = .ok (.if_icmp .ne 19, 3) := by decide +kernel
theorem dX2_stepUp_11 : decode cX2_stepUp 11 = .ok (.aload_n 0, 1) := by decide +kernel
theorem dX2_stepUp_12 : decode cX2_stepUp 12 = .ok (.invokevirtual 58, 3) := by decide +kernel
theorem dX2_stepUp_15 : decode cX2_stepUp 15 = .ok (.aload_n 0, 1) := by decide +kernel
theorem dX2_stepUp_16 : decode cX2_stepUp 16 = .ok (.invokevirtual 61, 3) := by decide +kernel
theorem dX2_stepUp_19 : decode cX2_stepUp 19 = .ok (.aload_n 0, 1) := by decide +kernel
theorem dX2_stepUp_20 : decode cX2_stepUp 20 = .ok (.iconst 0, 1) := by decide +kernel
theorem dX2_stepUp_21 : decode cX2_stepUp 21 = .ok (.putfield 30, 3) := by decide +kernel
theorem dX2_stepUp_24 : decode cX2_stepUp 24 = .ok (.goto 13, 3) := by decide +kernel
theorem dX2_stepUp_27 : decode cX2_stepUp 27 = .ok (.aload_n 0, 1) := by decide +kernel
theorem dX2_stepUp_28 : decode cX2_stepUp 28 = .ok (.dup, 1) := by decide +kernel
theorem dX2_stepUp_29 : decode cX2_stepUp 29 = .ok (.getfield 30, 3) := by decide +kernel
theorem dX2_stepUp_32 : decode cX2_stepUp 32 = .ok (.iconst 1, 1) := by decide +kernel
theorem dX2_stepUp_33 : decode cX2_stepUp 33 = .ok (.iadd, 1) := by decide +kernel
theorem dX2_stepUp_34 : decode cX2_stepUp 34 = .ok (.putfield 30, 3) := by decide +kernel
theorem dX2_stepUp_37 : decode cX2_stepUp 37 = .ok (.return_, 1) := by decide +kernel
set_option maxRecDepth 20000 in
theorem ggX2_stepDown_X2_goOver : GoodIn wsX2_stepDown wsX2_goOver := goodIn_r _ [7, 8, 9, 15, 16, 17, 18, 19, 20, 21, 22, 23, 24, 25] (by decide +kernel) (by decide +kernel)
set_option maxRecDepth 20000 in
theorem gX2_stepDown_X2_goOver : GoodIn wsX2_stepDown (wsV RX2 58 RX2 yX2_goOver wsX2_goOver) := goodIn_app (goodIn_of _ (by decide +kernel)) ggX2_stepDown_X2_goOver
set_option maxRecDepth 20000 in
theorem ggX2_stepDown_X2_takeWaitingTop : GoodIn wsX2_stepDown wsX2_takeWaitingTop := goodIn_r _ [13, 14, 2, 15, 16, 17, 18, 19, 20, 21, 22, 23, 24, 25] (by decide +kernel) (by decide +kernel)
set_option maxRecDepth 20000 in
theorem gX2_stepDown_X2_takeWaitingTop : GoodIn wsX2_stepDown (wsV RX2 61 RX2 yX2_takeWaitingTop wsX2_takeWaitingTop) := goodIn_app (goodIn_of _ (by decide +kernel)) ggX2_stepDown_X2_takeWaitingTop
theorem dX2_stepDown_0 : decode cX2_stepDown 0 = .ok (.aload_n 0, 1) := by decide +kernel
theorem dX2_stepDown_1 : decode cX2_stepDown 1 = .ok (.getfield 30, 3) := by decide +kernel
theorem dX2_stepDown_4 : decode cX2_stepDown 4 = .ok (.ifCond .ne 22, 3) := by decide +kernel
theorem dX2_stepDown_7 : decode cX2_stepDown 7 = .ok (.aload_n 0, 1) := by decide +kernel
theorem dX2_stepDown_8 : decode cX2_stepDown 8 = .ok (.invokevirtual 58, 3) := by decide +kernel
theorem dX2_stepDown_11 : decode cX2_stepDown 11 = .ok (.aload_n 0, 1) := by decide +kernel
theorem dX2_stepDown_12 : decode cX2_stepDown 12 = .ok (.invokevirtual 61, 3) := by decide +kernel
theorem dX2_stepDown_15 : decode cX2_stepDown 15 = .ok (.aload_n 0, 1) := by decide +kernel
theorem dX2_stepDown_16 : decode cX2_stepDown 16 = .ok (.aload_n 0, 1) := by decide +kernel
theorem dX2_stepDown_17 : decode cX2_stepDown 17 = .ok (.getfield 15, 3) := by decide +kernel
theorem dX2_stepDown_20 : decode cX2_stepDown 20 = .ok (.putfield 30, 3) := by decide +kernel
theorem dX2_stepDown_23 : decode cX2_stepDown 23 = .ok (.goto 13, 3) := by decide +kernel
theorem dX2_stepDown_26 : decode cX2_stepDown 26 = .ok (.aload_n 0, 1) := by decide +kernel
theorem dX2_stepDown_27 : decode cX2_stepDown 27 = .ok (.dup, 1) := by decide +kernel
theorem dX2_stepDown_28 : decode cX2_stepDown 28 = .ok (.getfield 30, 3) := by decide +kernel
theorem dX2_stepDown_31 : decode cX2_stepDown 31 = .ok (.iconst 1, 1) := by decide +kernel
theorem dX2_stepDown_32 : decode cX2_stepDown 32 = .ok (.isub, 1) := by decide +kernel
theorem dX2_stepDown_33 : decode cX2_stepDown 33 = .ok (.putfield 30, 3) := by decide +kernel
theorem dX2_stepDown_36 : decode cX2_stepDown 36 = .ok (.return_, 1) := by decide +kernel
set_option maxRecDepth 20000 in
theorem ggX2_stepBothWays_X2_goOver : GoodIn wsX2_stepBothWays wsX2_goOver := goodIn_r _ [8, 9, 10, 16, 17, 18, 19, 20, 21, 22, 23, 24, 25, 26] (by decide +kernel) (by decide +kernel)
set_option maxRecDepth 20000 in
theorem gX2_stepBothWays_X2_goOver : GoodIn wsX2_stepBothWays (wsV RX2 58 RX2 yX2_goOver wsX2_goOver) := goodIn_app (goodIn_of _ (by decide +kernel)) ggX2_stepBothWays_X2_goOver
set_option maxRecDepth 20000 in
theorem ggX2_stepBothWays_X2_takeWaitingTop : GoodIn wsX2_stepBothWays wsX2_takeWaitingTop := goodIn_r _ [14, 15, 3, 16, 17, 18, 19, 20, 21, 22, 23, 24, 25, 26] (by decide +kernel) (by decide +kernel)
set_option maxRecDepth 20000 in
theorem gX2_stepBothWays_X2_takeWaitingTop : GoodIn wsX2_stepBothWays (wsV RX2 61 RX2 yX2_takeWaitingTop wsX2_takeWaitingTop) := goodIn_app (goodIn_of _ (by decide +kernel)) ggX2_stepBothWays_X2_takeWaitingTop
theorem dX2_stepBothWays_0 : decode cX2_stepBothWays 0 = .ok (.aload_n 0, 1) := by decide +kernel
theorem dX2_stepBothWays_1 : decode cX2_stepBothWays 1 = .ok (.getfield 24, 3) := by decide +kernel
theorem dX2_stepBothWays_4 : decode cX2_stepBothWays 4 = .ok (.iconst 1, 1) := by decide +kernel
theorem dX2_stepBothWays_5 : decode cX2_stepBothWays 5 = .ok (.if_icmp .ne 26, 3) := by decide +kernel
theorem dX2_stepBothWays_8 : decode cX2_stepBothWays 8 = .ok (.aload_n 0, 1) := by decide +kernel
theorem dX2_stepBothWays_9 : decode cX2_stepBothWays 9 = .ok (.getfield 30, 3) := by decide +kernel
theorem dX2_stepBothWays_12 : decode cX2_stepBothWays 12 = .ok (.aload_n 0, 1) := by decide +kernel
theorem dX2_stepBothWays_13 : decode cX2_stepBothWays 13 = .ok (.getfield 15, 3) := by decide +kernel
theorem dX2_stepBothWays_16 : decode cX2_stepBothWays 16 = .ok (.if_icmp .ne 15, 3) := by decide +kernel
theorem dX2_stepBothWays_19 : decode cX2_stepBothWays 19 = .ok (.aload_n 0, 1) := by decide +kernel
theorem dX2_stepBothWays_20 : decode cX2_stepBothWays 20 = .ok (.invokevirtual 58, 3) := by decide +kernel
theorem dX2_stepBothWays_23 : decode cX2_stepBothWays 23 = .ok (.aload_n 0, 1) := by decide +kernel
theorem dX2_stepBothWays_24 : decode cX2_stepBothWays 24 = .ok (.iconst 0, 1) := by decide +kernel
theorem dX2_stepBothWays_25 : decode cX2_stepBothWays 25 = .ok (.putfield 24, 3) := by decide +kernel
theorem dX2_stepBothWays_28 : decode cX2_stepBothWays 28 = .ok (.goto 30, 3) := by decide +kernel
theorem dX2_stepBothWays_31 : decode cX2_stepBothWays 31 = .ok (.aload_n 0, 1) := by decide +kernel
theorem dX2_stepBothWays_32 : decode cX2_stepBothWays 32 = .ok (.getfield 24, 3) := by decide +kernel
theorem dX2_stepBothWays_35 : decode cX2_stepBothWays 35 = .ok (.ifCond .ne 23, 3) := by decide +kernel
theorem dX2_stepBothWays_38 : decode cX2_stepBothWays 38 = .ok (.aload_n 0, 1) := by decide +kernel
theorem dX2_stepBothWays_39 : decode cX2_stepBothWays 39 = .ok (.getfield 30, 3) := by decide +kernel
theorem dX2_stepBothWays_42 : decode cX2_stepBothWays 42 = .ok (.ifCond .ne 16, 3) := by decide +kernel
theorem dX2_stepBothWays_45 : decode cX2_stepBothWays 45 = .ok (.aload_n 0, 1) := by decide +kernel
theorem dX2_stepBothWays_46 : decode cX2_stepBothWays 46 = .ok (.invokevirtual 58, 3) := by decide +kernel
theorem dX2_stepBothWays_49 : decode cX2_stepBothWays 49 = .ok (.aload_n 0, 1) := by decide +kernel
theorem dX2_stepBothWays_50 : decode cX2_stepBothWays 50 = .ok (.iconst 1, 1) := by decide +kernel
theorem dX2_stepBothWays_51 : decode cX2_stepBothWays 51 = .ok (.putfield 24, 3) := by decide +kernel
theorem dX2_stepBothWays_54 : decode cX2_stepBothWays 54 = .ok (.aload_n 0, 1) := by decide +kernel
theorem dX2_stepBothWays_55 : decode cX2_stepBothWays 55 = .ok (.invokevirtual 61, 3) := by decide +kernel
theorem dX2_stepBothWays_58 : decode cX2_stepBothWays 58 = .ok (.aload_n 0, 1) := by decide +kernel
theorem dX2_stepBothWays_59 : decode cX2_stepBothWays 59 = .ok (.dup, 1) := by decide +kernel
theorem dX2_stepBothWays_60 : decode cX2_stepBothWays 60 = .ok (.getfield 30, 3) := by decide +kernel
theorem dX2_stepBothWays_63 : decode cX2_stepBothWays 63 = .ok (.aload_n 0, 1) := by decide +kernel
theorem dX2_stepBothWays_64 : decode cX2_stepBothWays 64 = .ok (.getfield 24, 3) := by decide +kernel
theorem dX2_stepBothWays_67 : decode cX2_stepBothWays 67 = .ok (.iconst 1, 1) := by decide +kernel
theorem dX2_stepBothWays_68 : decode cX2_stepBothWays 68 = .ok (.if_icmp .ne 7, 3) := by decide +kernel
theorem dX2_stepBothWays_71 : decode cX2_stepBothWays 71 = .ok (.iconst 1, 1) := by decide +kernel
theorem dX2_stepBothWays_72 : decode cX2_stepBothWays 72 = .ok (.goto 4, 3) := by decide +kernel
theorem dX2_stepBothWays_75 : decode cX2_stepBothWays 75 = .ok (.iconst (-1), 1) := by decide +kernel
theorem dX2_stepBothWays_76 : decode cX2_stepBothWays 76 = .ok (.iadd, 1) := by decide +kernel
theorem dX2_stepBothWays_77 : decode cX2_stepBothWays 77 = .ok (.putfield 30, 3) := by decide +kernel
theorem dX2_stepBothWays_80 : decode cX2_stepBothWays 80 = .ok (.return_, 1) := by decide +kernel
theorem dX2_goOver_0 : decode cX2_goOver 0 = .ok (.aload_n 0, 1) := by decide +kernel
theorem dX2_goOver_1 : decode cX2_goOver 1 = .ok (.iconst 1, 1) := by decide +kernel
theorem dX2_goOver_2 : decode cX2_goOver 2 = .ok (.putfield 39, 3) := by decide +kernel
theorem dX2_goOver_5 : decode cX2_goOver 5 = .ok (.aload_n 0, 1) := by decide +kernel
theorem dX2_goOver_6 : decode cX2_goOver 6 = .ok (.dup, 1) := by decide +kernel
theorem dX2_goOver_7 : decode cX2_goOver 7 = .ok (.getfield 36, 3) := by decide +kernel
theorem dX2_goOver_10 : decode cX2_goOver 10 = .ok (.iconst 1, 1) := by decide +kernel
theorem dX2_goOver_11 : decode cX2_goOver 11 = .ok (.iadd, 1) := by decide +kernel
theorem dX2_goOver_12 : decode cX2_goOver 12 = .ok (.putfield 36, 3) := by decide +kernel
theorem dX2_goOver_15 : decode cX2_goOver 15 = .ok (.return_, 1) := by decide +kernel
theorem dX2_takeWaitingTop_0 : decode cX2_takeWaitingTop 0 = .ok (.aload_n 0, 1) := by decide +kernel
theorem dX2_takeWaitingTop_1 : decode cX2_takeWaitingTop 1 = .ok (.getfield 27, 3) := by decide +kernel
theorem dX2_takeWaitingTop_4 : decode cX2_takeWaitingTop 4 = .ok (.bipush (-9), 2) := by decide +kernel
theorem dX2_takeWaitingTop_6 : decode cX2_takeWaitingTop 6 = .ok (.if_icmp .eq 17, 3) := by decide +kernel
theorem dX2_takeWaitingTop_9 : decode cX2_takeWaitingTop 9 = .ok (.aload_n 0, 1) := by decide +kernel
theorem dX2_takeWaitingTop_10 : decode cX2_takeWaitingTop 10 = .ok (.aload_n 0, 1) := by decide +kernel
theorem dX2_takeWaitingTop_11 : decode cX2_takeWaitingTop 11 = .ok (.getfield 27, 3) := by decide +kernel
theorem dX2_takeWaitingTop_14 : decode cX2_takeWaitingTop 14 = .ok (.putfield 15, 3) := by decide +kernel
theorem dX2_takeWaitingTop_17 : decode cX2_takeWaitingTop 17 = .ok (.aload_n 0, 1) := by decide +kernel
theorem dX2_takeWaitingTop_18 : decode cX2_takeWaitingTop 18 = .ok (.bipush (-9), 2) := by decide +kernel
theorem dX2_takeWaitingTop_20 : decode cX2_takeWaitingTop 20 = .ok (.putfield 27, 3) := by decide +kernel
theorem dX2_takeWaitingTop_23 : decode cX2_takeWaitingTop 23 = .ok (.return_, 1) := by decide +kernel
theorem dX2_tell_0 : decode cX2_tell 0 = .ok (.iload_n 1, 1) := by decide +kernel
theorem dX2_tell_1 : decode cX2_tell 1 = .ok (.tableswitch 96 0 8 #[51, 56, 61, 66, 71, 76, 81, 86, 91], 51) := by decide +kernel
theorem dX2_tell_52 : decode cX2_tell 52 = .ok (.aload_n 0, 1) := by decide +kernel
theorem dX2_tell_53 : decode cX2_tell 53 = .ok (.getfield 30, 3) := by decide +kernel
theorem dX2_tell_56 : decode cX2_tell 56 = .ok (.ireturn, 1) := by decide +kernel
theorem dX2_tell_57 : decode cX2_tell 57 = .ok (.aload_n 0, 1) := by decide +kernel
theorem dX2_tell_58 : decode cX2_tell 58 = .ok (.getfield 15, 3) := by decide +kernel
theorem dX2_tell_61 : decode cX2_tell 61 = .ok (.ireturn, 1) := by decide +kernel
theorem dX2_tell_62 : decode cX2_tell 62 = .ok (.aload_n 0, 1) := by decide +kernel
theorem dX2_tell_63 : decode cX2_tell 63 = .ok (.getfield 9, 3) := by decide +kernel
theorem dX2_tell_66 : decode cX2_tell 66 = .ok (.ireturn, 1) := by decide +kernel
theorem dX2_tell_67 : decode cX2_tell 67 = .ok (.aload_n 0, 1) := by decide +kernel
theorem dX2_tell_68 : decode cX2_tell 68 = .ok (.getfield 18, 3) := by decide +kernel
theorem dX2_tell_71 : decode cX2_tell 71 = .ok (.ireturn, 1) := by decide +kernel
theorem dX2_tell_72 : decode cX2_tell 72 = .ok (.aload_n 0, 1) := by decide +kernel
theorem dX2_tell_73 : decode cX2_tell 73 = .ok (.getfield 21, 3) := by decide +kernel
theorem dX2_tell_76 : decode cX2_tell 76 = .ok (.ireturn, 1) := by decide +kernel
theorem dX2_tell_77 : decode cX2_tell 77 = .ok (.aload_n 0, 1) := by decide +kernel
theorem dX2_tell_78 : decode cX2_tell 78 = .ok (.getfield 33, 3) := by decide +kernel
theorem dX2_tell_81 : decode cX2_tell 81 = .ok (.ireturn, 1) := by decide +kernel
theorem dX2_tell_82 : decode cX2_tell 82 = .ok (.aload_n 0, 1) := by decide +kernel
theorem dX2_tell_83 : decode cX2_tell 83 = .ok (.getfield 24, 3) := by decide +kernel
theorem dX2_tell_86 : decode cX2_tell 86 = .ok (.ireturn, 1) := by decide +kernel
theorem dX2_tell_87 : decode cX2_tell 87 = .ok (.aload_n 0, 1) := by decide +kernel
theorem dX2_tell_88 : decode cX2_tell 88 = .ok (.getfield 36, 3) := by decide +kernel
theorem dX2_tell_91 : decode cX2_tell 91 = .ok (.ireturn, 1) := by decide +kernel
theorem dX2_tell_92 : decode cX2_tell 92 = .ok (.aload_n 0, 1) := by decide +kernel
theorem dX2_tell_93 : decode cX2_tell 93 = .ok (.getfield 27, 3) := by decide +kernel
theorem dX2_tell_96 : decode cX2_tell 96 = .ok (.ireturn, 1) := by decide +kernel
theorem dX2_tell_97 : decode cX2_tell 97 = .ok (.bipush (-2), 2) := by decide +kernel
theorem dX2_tell_99 : decode cX2_tell 99 = .ok (.ireturn, 1) := by decide +kernel
theorem dX3_init_0 : decode cX3_init 0 = .ok (.aload_n 0, 1) := by decide +kernel
theorem dX3_init_1 : decode cX3_init 1 = .ok (.invokespecial 3, 3) := by decide +kernel
theorem dX3_init_4 : decode cX3_init 4 = .ok (.aload_n 0, 1) := by decide +kernel
theorem dX3_init_5 : decode cX3_init 5 = .ok (.iconst 1, 1) := by decide +kernel
theorem dX3_init_6 : decode cX3_init 6 = .ok (.putfield 9, 3) := by decide +kernel
theorem dX3_init_9 : decode cX3_init 9 = .ok (.return_, 1) := by decide +kernel
theorem dX3_look_0 : decode cX3_look 0 = .ok (.aload_n 0, 1) := by decide +kernel
theorem dX3_look_1 : decode cX3_look 1 = .ok (.iconst 0, 1) := by decide +kernel
theorem dX3_look_2 : decode cX3_look 2 = .ok (.putfield 15, 3) := by decide +kernel
theorem dX3_look_5 : decode cX3_look 5 = .ok (.aload_n 0, 1) := by decide +kernel
theorem dX3_look_6 : decode cX3_look 6 = .ok (.getfield 18, 3) := by decide +kernel
theorem dX3_look_9 : decode cX3_look 9 = .ok (.aload_n 0, 1) := by decide +kernel
theorem dX3_look_10 : decode cX3_look 10 = .ok (.getfield 21, 3) := by decide +kernel
theorem dX3_look_13 : decode cX3_look 13 = .ok (.if_icmp .ne 9, 3) := by decide +kernel
theorem dX3_look_16 : decode cX3_look 16 = .ok (.aload_n 0, 1) := by decide +kernel
theorem dX3_look_17 : decode cX3_look 17 = .ok (.iconst 0, 1) := by decide +kernel
theorem dX3_look_18 : decode cX3_look 18 = .ok (.putfield 24, 3) := by decide +kernel
theorem dX3_look_21 : decode cX3_look 21 = .ok (.return_, 1) := by decide +kernel
theorem dX3_look_22 : decode cX3_look 22 = .ok (.aload_n 0, 1) := by decide +kernel
theorem dX3_look_23 : decode cX3_look 23 = .ok (.dup, 1) := by decide +kernel
theorem dX3_look_24 : decode cX3_look 24 = .ok (.getfield 24, 3) := by decide +kernel
theorem dX3_look_27 : decode cX3_look 27 = .ok (.iconst 1, 1) := by decide +kernel
theorem dX3_look_28 : decode cX3_look 28 = .ok (.iadd, 1) := by decide +kernel
theorem dX3_look_29 : decode cX3_look 29 = .ok (.putfield 24, 3) := by decide +kernel
theorem dX3_look_32 : decode cX3_look 32 = .ok (.aload_n 0, 1) := by decide +kernel
theorem dX3_look_33 : decode cX3_look 33 = .ok (.getfield 24, 3) := by decide +kernel
theorem dX3_look_36 : decode cX3_look 36 = .ok (.aload_n 0, 1) := by decide +kernel
theorem dX3_look_37 : decode cX3_look 37 = .ok (.getfield 9, 3) := by decide +kernel
theorem dX3_look_40 : decode cX3_look 40 = .ok (.if_icmp .lt 33, 3) := by decide +kernel
theorem dX3_look_43 : decode cX3_look 43 = .ok (.aload_n 0, 1) := by decide +kernel
theorem dX3_look_44 : decode cX3_look 44 = .ok (.aload_n 0, 1) := by decide +kernel
theorem dX3_look_45 : decode cX3_look 45 = .ok (.getfield 18, 3) := by decide +kernel
theorem dX3_look_48 : decode cX3_look 48 = .ok (.putfield 21, 3) := by decide +kernel
theorem dX3_look_51 : decode cX3_look 51 = .ok (.aload_n 0, 1) := by decide +kernel
theorem dX3_look_52 : decode cX3_look 52 = .ok (.iconst 0, 1) := by decide +kernel
theorem dX3_look_53 : decode cX3_look 53 = .ok (.putfield 24, 3) := by decide +kernel
theorem dX3_look_56 : decode cX3_look 56 = .ok (.aload_n 0, 1) := by decide +kernel
theorem dX3_look_57 : decode cX3_look 57 = .ok (.aload_n 0, 1) := by decide +kernel
theorem dX3_look_58 : decode cX3_look 58 = .ok (.getfield 21, 3) := by decide +kernel
theorem dX3_look_61 : decode cX3_look 61 = .ok (.iconst 1, 1) := by decide +kernel
theorem dX3_look_62 : decode cX3_look 62 = .ok (.if_icmp .ne 7, 3) := by decide +kernel
theorem dX3_look_65 : decode cX3_look 65 = .ok (.iconst 1, 1) := by decide +kernel
theorem dX3_look_66 : decode cX3_look 66 = .ok (.goto 4, 3) := by decide +kernel
theorem dX3_look_69 : decode cX3_look 69 = .ok (.iconst 2, 1) := by decide +kernel
theorem dX3_look_70 : decode cX3_look 70 = .ok (.putfield 15, 3) := by decide +kernel
theorem dX3_look_73 : decode cX3_look 73 = .ok (.return_, 1) := by decide +kernel
theorem dX3_tell_0 : decode cX3_tell 0 = .ok (.iload_n 1, 1) := by decide +kernel
theorem dX3_tell_1 : decode cX3_tell 1 = .ok (.tableswitch 51 0 3 #[31, 36, 41, 46], 31) := by decide +kernel
theorem dX3_tell_32 : decode cX3_tell 32 = .ok (.aload_n 0, 1) := by decide +kernel
theorem dX3_tell_33 : decode cX3_tell 33 = .ok (.getfield 18, 3) := by decide +kernel
theorem dX3_tell_36 : decode cX3_tell 36 = .ok (.ireturn, 1) := by decide +kernel
theorem dX3_tell_37 : decode cX3_tell 37 = .ok (.aload_n 0, 1) := by decide +kernel
theorem dX3_tell_38 : decode cX3_tell 38 = .ok (.getfield 21, 3) := by decide +kernel
theorem dX3_tell_41 : decode cX3_tell 41 = .ok (.ireturn, 1) := by decide +kernel
theorem dX3_tell_42 : decode cX3_tell 42 = .ok (.aload_n 0, 1) := by decide +kernel
theorem dX3_tell_43 : decode cX3_tell 43 = .ok (.getfield 24, 3) := by decide +kernel
theorem dX3_tell_46 : decode cX3_tell 46 = .ok (.ireturn, 1) := by decide +kernel
theorem dX3_tell_47 : decode cX3_tell 47 = .ok (.aload_n 0, 1) := by decide +kernel
theorem dX3_tell_48 : decode cX3_tell 48 = .ok (.getfield 9, 3) := by decide +kernel
theorem dX3_tell_51 : decode cX3_tell 51 = .ok (.ireturn, 1) := by decide +kernel
theorem dX3_tell_52 : decode cX3_tell 52 = .ok (.bipush (-2), 2) := by decide +kernel
theorem dX3_tell_54 : decode cX3_tell 54 = .ok (.ireturn, 1) := by decide +kernel
theorem dX4_init_0 : decode cX4_init 0 = .ok (.aload_n 0, 1) := by decide +kernel
theorem dX4_init_1 : decode cX4_init 1 = .ok (.invokespecial 3, 3) := by decide +kernel
theorem dX4_init_4 : decode cX4_init 4 = .ok (.aload_n 0, 1) := by decide +kernel
theorem dX4_init_5 : decode cX4_init 5 = .ok (.bipush (-9), 2) := by decide +kernel
theorem dX4_init_7 : decode cX4_init 7 = .ok (.putfield 9, 3) := by decide +kernel
theorem dX4_init_10 : decode cX4_init 10 = .ok (.return_, 1) := by decide +kernel
theorem dX4_takeHigh_0 : decode cX4_takeHigh 0 = .ok (.aload_n 0, 1) := by decide +kernel
theorem dX4_takeHigh_1 : decode cX4_takeHigh 1 = .ok (.getfield 15, 3) := by decide +kernel
theorem dX4_takeHigh_4 : decode cX4_takeHigh 4 = .ok (.ifCond .eq 12, 3) := by decide +kernel
theorem dX4_takeHigh_7 : decode cX4_takeHigh 7 = .ok (.aload_n 0, 1) := by decide +kernel
theorem dX4_takeHigh_8 : decode cX4_takeHigh 8 = .ok (.getfield 9, 3) := by decide +kernel
theorem dX4_takeHigh_11 : decode cX4_takeHigh 11 = .ok (.bipush (-9), 2) := by decide +kernel
theorem dX4_takeHigh_13 : decode cX4_takeHigh 13 = .ok (.if_icmp .ne 5, 3) := by decide +kernel
theorem dX4_takeHigh_16 : decode cX4_takeHigh 16 = .ok (.iload_n 1, 1) := by decide +kernel
theorem dX4_takeHigh_17 : decode cX4_takeHigh 17 = .ok (.ireturn, 1) := by decide +kernel
theorem dX4_takeHigh_18 : decode cX4_takeHigh 18 = .ok (.aload_n 0, 1) := by decide +kernel
theorem dX4_takeHigh_19 : decode cX4_takeHigh 19 = .ok (.getfield 9, 3) := by decide +kernel
theorem dX4_takeHigh_22 : decode cX4_takeHigh 22 = .ok (.istore_n 2, 1) := by decide +kernel
theorem dX4_takeHigh_23 : decode cX4_takeHigh 23 = .ok (.aload_n 0, 1) := by decide +kernel
theorem dX4_takeHigh_24 : decode cX4_takeHigh 24 = .ok (.bipush (-9), 2) := by decide +kernel
theorem dX4_takeHigh_26 : decode cX4_takeHigh 26 = .ok (.putfield 9, 3) := by decide +kernel
theorem dX4_takeHigh_29 : decode cX4_takeHigh 29 = .ok (.iload_n 2, 1) := by decide +kernel
theorem dX4_takeHigh_30 : decode cX4_takeHigh 30 = .ok (.ireturn, 1) := by decide +kernel
theorem dX5_init_0 : decode cX5_init 0 = .ok (.aload_n 0, 1) := by decide +kernel
theorem dX5_init_1 : decode cX5_init 1 = .ok (.invokespecial 3, 3) := by decide +kernel
theorem dX5_init_4 : decode cX5_init 4 = .ok (.aload_n 0, 1) := by decide +kernel
theorem dX5_init_5 : decode cX5_init 5 = .ok (.bipush 8, 2) := by decide +kernel
theorem dX5_init_7 : decode cX5_init 7 = .ok (.newarray .int, 2) := by decide +kernel
theorem dX5_init_9 : decode cX5_init 9 = .ok (.putfield 9, 3) := by decide +kernel
theorem dX5_init_12 : decode cX5_init 12 = .ok (.aload_n 0, 1) := by decide +kernel
theorem dX5_init_13 : decode cX5_init 13 = .ok (.bipush 24, 2) := by decide +kernel
theorem dX5_init_15 : decode cX5_init 15 = .ok (.newarray .int, 2) := by decide +kernel
theorem dX5_init_17 : decode cX5_init 17 = .ok (.putfield 15, 3) := by decide +kernel
theorem dX5_init_20 : decode cX5_init 20 = .ok (.aload_n 0, 1) := by decide +kernel
theorem dX5_init_21 : decode cX5_init 21 = .ok (.bipush 24, 2) := by decide +kernel
theorem dX5_init_23 : decode cX5_init 23 = .ok (.newarray .int, 2) := by decide +kernel
theorem dX5_init_25 : decode cX5_init 25 = .ok (.putfield 18, 3) := by decide +kernel
theorem dX5_init_28 : decode cX5_init 28 = .ok (.aload_n 0, 1) := by decide +kernel
theorem dX5_init_29 : decode cX5_init 29 = .ok (.bipush 24, 2) := by decide +kernel
theorem dX5_init_31 : decode cX5_init 31 = .ok (.newarray .int, 2) := by decide +kernel
theorem dX5_init_33 : decode cX5_init 33 = .ok (.putfield 21, 3) := by decide +kernel
theorem dX5_init_36 : decode cX5_init 36 = .ok (.return_, 1) := by decide +kernel
theorem dX5_drive_0 : decode cX5_drive 0 = .ok (.aload_n 0, 1) := by decide +kernel
theorem dX5_drive_1 : decode cX5_drive 1 = .ok (.getfield 9, 3) := by decide +kernel
theorem dX5_drive_4 : decode cX5_drive 4 = .ok (.iload_n 1, 1) := by decide +kernel
theorem dX5_drive_5 : decode cX5_drive 5 = .ok (.iaload, 1) := by decide +kernel
theorem dX5_drive_6 : decode cX5_drive 6 = .ok (.iload_n 2, 1) := by decide +kernel
theorem dX5_drive_7 : decode cX5_drive 7 = .ok (.if_icmp .ne 4, 3) := by decide +kernel
theorem dX5_drive_10 : decode cX5_drive 10 = .ok (.return_, 1) := by decide +kernel
theorem dX5_drive_11 : decode cX5_drive 11 = .ok (.aload_n 0, 1) := by decide +kernel
theorem dX5_drive_12 : decode cX5_drive 12 = .ok (.getfield 9, 3) := by decide +kernel
theorem dX5_drive_15 : decode cX5_drive 15 = .ok (.iload_n 1, 1) := by decide +kernel
theorem dX5_drive_16 : decode cX5_drive 16 = .ok (.iload_n 2, 1) := by decide +kernel
theorem dX5_drive_17 : decode cX5_drive 17 = .ok (.iastore, 1) := by decide +kernel
theorem dX5_drive_18 : decode cX5_drive 18 = .ok (.aload_n 0, 1) := by decide +kernel
theorem dX5_drive_19 : decode cX5_drive 19 = .ok (.getfield 15, 3) := by decide +kernel
theorem dX5_drive_22 : decode cX5_drive 22 = .ok (.aload_n 0, 1) := by decide +kernel
theorem dX5_drive_23 : decode cX5_drive 23 = .ok (.getfield 24, 3) := by decide +kernel
theorem dX5_drive_26 : decode cX5_drive 26 = .ok (.iload_n 3, 1) := by decide +kernel
theorem dX5_drive_27 : decode cX5_drive 27 = .ok (.iastore, 1) := by decide +kernel
theorem dX5_drive_28 : decode cX5_drive 28 = .ok (.aload_n 0, 1) := by decide +kernel
theorem dX5_drive_29 : decode cX5_drive 29 = .ok (.getfield 18, 3) := by decide +kernel
theorem dX5_drive_32 : decode cX5_drive 32 = .ok (.aload_n 0, 1) := by decide +kernel
theorem dX5_drive_33 : decode cX5_drive 33 = .ok (.getfield 24, 3) := by decide +kernel
theorem dX5_drive_36 : decode cX5_drive 36 = .ok (.iload_n 1, 1) := by decide +kernel
theorem dX5_drive_37 : decode cX5_drive 37 = .ok (.iastore, 1) := by decide +kernel
theorem dX5_drive_38 : decode cX5_drive 38 = .ok (.aload_n 0, 1) := by decide +kernel
theorem dX5_drive_39 : decode cX5_drive 39 = .ok (.getfield 21, 3) := by decide +kernel
theorem dX5_drive_42 : decode cX5_drive 42 = .ok (.aload_n 0, 1) := by decide +kernel
theorem dX5_drive_43 : decode cX5_drive 43 = .ok (.getfield 24, 3) := by decide +kernel
theorem dX5_drive_46 : decode cX5_drive 46 = .ok (.iload_n 2, 1) := by decide +kernel
theorem dX5_drive_47 : decode cX5_drive 47 = .ok (.iastore, 1) := by decide +kernel
theorem dX5_drive_48 : decode cX5_drive 48 = .ok (.aload_n 0, 1) := by decide +kernel
theorem dX5_drive_49 : decode cX5_drive 49 = .ok (.aload_n 0, 1) := by decide +kernel
theorem dX5_drive_50 : decode cX5_drive 50 = .ok (.getfield 24, 3) := by decide +kernel
theorem dX5_drive_53 : decode cX5_drive 53 = .ok (.iconst 1, 1) := by decide +kernel
theorem dX5_drive_54 : decode cX5_drive 54 = .ok (.iadd, 1) := by decide +kernel
theorem dX5_drive_55 : decode cX5_drive 55 = .ok (.bipush 24, 2) := by decide +kernel
theorem dX5_drive_57 : decode cX5_drive 57 = .ok (.irem, 1) := by decide +kernel
theorem dX5_drive_58 : decode cX5_drive 58 = .ok (.putfield 24, 3) := by decide +kernel
theorem dX5_drive_61 : decode cX5_drive 61 = .ok (.aload_n 0, 1) := by decide +kernel
theorem dX5_drive_62 : decode cX5_drive 62 = .ok (.aload_n 0, 1) := by decide +kernel
theorem dX5_drive_63 : decode cX5_drive 63 = .ok (.getfield 28, 3) := by decide +kernel
theorem dX5_drive_66 : decode cX5_drive 66 = .ok (.iconst 1, 1) := by decide +kernel
theorem dX5_drive_67 : decode cX5_drive 67 = .ok (.iadd, 1) := by decide +kernel
theorem dX5_drive_68 : decode cX5_drive 68 = .ok (.bipush 24, 2) := by decide +kernel
theorem dX5_drive_70 : decode cX5_drive 70 = .ok (.invokestatic 31, 3) := by decide +kernel
theorem dX5_drive_73 : decode cX5_drive 73 = .ok (.putfield 28, 3) := by decide +kernel
theorem dX5_drive_76 : decode cX5_drive 76 = .ok (.return_, 1) := by decide +kernel
set_option maxRecDepth 20000 in
theorem ggX5_tell_X7_within : GoodIn wsX5_tell wsX7_within := goodIn_r _ [8] (by decide +kernel) (by decide +kernel)
set_option maxRecDepth 20000 in
theorem gX5_tell_X7_within_n37 : GoodIn wsX5_tell (wsX7_within) := ggX5_tell_X7_within
theorem dX5_tell_0 : decode cX5_tell 0 = .ok (.iload_n 2, 1) := by decide +kernel
theorem dX5_tell_1 : decode cX5_tell 1 = .ok (.iconst 0, 1) := by decide +kernel
theorem dX5_tell_2 : decode cX5_tell 2 = .ok (.iconst 2, 1) := by decide +kernel
theorem dX5_tell_3 : decode cX5_tell 3 = .ok (.invokestatic 37, 3) := by decide +kernel
theorem dX5_tell_6 : decode cX5_tell 6 = .ok (.ifCond .ne 6, 3) := by decide +kernel
theorem dX5_tell_9 : decode cX5_tell 9 = .ok (.bipush (-2), 2) := by decide +kernel
theorem dX5_tell_11 : decode cX5_tell 11 = .ok (.ireturn, 1) := by decide +kernel
theorem dX5_tell_12 : decode cX5_tell 12 = .ok (.iload_n 1, 1) := by decide +kernel
theorem dX5_tell_13 : decode cX5_tell 13 = .ok (.aload_n 0, 1) := by decide +kernel
theorem dX5_tell_14 : decode cX5_tell 14 = .ok (.getfield 28, 3) := by decide +kernel
theorem dX5_tell_17 : decode cX5_tell 17 = .ok (.if_icmp .lt 6, 3) := by decide +kernel
theorem dX5_tell_20 : decode cX5_tell 20 = .ok (.bipush (-9), 2) := by decide +kernel
theorem dX5_tell_22 : decode cX5_tell 22 = .ok (.ireturn, 1) := by decide +kernel
theorem dX5_tell_23 : decode cX5_tell 23 = .ok (.aload_n 0, 1) := by decide +kernel
theorem dX5_tell_24 : decode cX5_tell 24 = .ok (.getfield 24, 3) := by decide +kernel
theorem dX5_tell_27 : decode cX5_tell 27 = .ok (.bipush 24, 2) := by decide +kernel
theorem dX5_tell_29 : decode cX5_tell 29 = .ok (.iadd, 1) := by decide +kernel
theorem dX5_tell_30 : decode cX5_tell 30 = .ok (.iconst 1, 1) := by decide +kernel
theorem dX5_tell_31 : decode cX5_tell 31 = .ok (.isub, 1) := by decide +kernel
theorem dX5_tell_32 : decode cX5_tell 32 = .ok (.iload_n 1, 1) := by decide +kernel
theorem dX5_tell_33 : decode cX5_tell 33 = .ok (.isub, 1) := by decide +kernel
theorem dX5_tell_34 : decode cX5_tell 34 = .ok (.bipush 24, 2) := by decide +kernel
theorem dX5_tell_36 : decode cX5_tell 36 = .ok (.irem, 1) := by decide +kernel
theorem dX5_tell_37 : decode cX5_tell 37 = .ok (.istore_n 3, 1) := by decide +kernel
theorem dX5_tell_38 : decode cX5_tell 38 = .ok (.iload_n 2, 1) := by decide +kernel
theorem dX5_tell_39 : decode cX5_tell 39 = .ok (.ifCond .ne 10, 3) := by decide +kernel
theorem dX5_tell_42 : decode cX5_tell 42 = .ok (.aload_n 0, 1) := by decide +kernel
theorem dX5_tell_43 : decode cX5_tell 43 = .ok (.getfield 15, 3) := by decide +kernel
theorem dX5_tell_46 : decode cX5_tell 46 = .ok (.iload_n 3, 1) := by decide +kernel
theorem dX5_tell_47 : decode cX5_tell 47 = .ok (.iaload, 1) := by decide +kernel
theorem dX5_tell_48 : decode cX5_tell 48 = .ok (.ireturn, 1) := by decide +kernel
theorem dX5_tell_49 : decode cX5_tell 49 = .ok (.iload_n 2, 1) := by decide +kernel
theorem dX5_tell_50 : decode cX5_tell 50 = .ok (.iconst 1, 1) := by decide +kernel
theorem dX5_tell_51 : decode cX5_tell 51 = .ok (.if_icmp .ne 12, 3) := by decide +kernel
theorem dX5_tell_54 : decode cX5_tell 54 = .ok (.aload_n 0, 1) := by decide +kernel
theorem dX5_tell_55 : decode cX5_tell 55 = .ok (.getfield 18, 3) := by decide +kernel
theorem dX5_tell_58 : decode cX5_tell 58 = .ok (.iload_n 3, 1) := by decide +kernel
theorem dX5_tell_59 : decode cX5_tell 59 = .ok (.iaload, 1) := by decide +kernel
theorem dX5_tell_60 : decode cX5_tell 60 = .ok (.goto 9, 3) := by decide +kernel
theorem dX5_tell_63 : decode cX5_tell 63 = .ok (.aload_n 0, 1) := by decide +kernel
theorem dX5_tell_64 : decode cX5_tell 64 = .ok (.getfield 21, 3) := by decide +kernel
theorem dX5_tell_67 : decode cX5_tell 67 = .ok (.iload_n 3, 1) := by decide +kernel
theorem dX5_tell_68 : decode cX5_tell 68 = .ok (.iaload, 1) := by decide +kernel
theorem dX5_tell_69 : decode cX5_tell 69 = .ok (.ireturn, 1) := by decide +kernel
theorem dX6_init_0 : decode cX6_init 0 = .ok (.aload_n 0, 1) := by decide +kernel
theorem dX6_init_1 : decode cX6_init 1 = .ok (.invokespecial 3, 3) := by decide +kernel
theorem dX6_init_4 : decode cX6_init 4 = .ok (.aload_n 0, 1) := by decide +kernel
theorem dX6_init_5 : decode cX6_init 5 = .ok (.iconst 4, 1) := by decide +kernel
theorem dX6_init_6 : decode cX6_init 6 = .ok (.putfield 9, 3) := by decide +kernel
theorem dX6_init_9 : decode cX6_init 9 = .ok (.aload_n 0, 1) := by decide +kernel
theorem dX6_init_10 : decode cX6_init 10 = .ok (.iconst 0, 1) := by decide +kernel
theorem dX6_init_11 : decode cX6_init 11 = .ok (.putfield 15, 3) := by decide +kernel
theorem dX6_init_14 : decode cX6_init 14 = .ok (.return_, 1) := by decide +kernel
theorem dX6_setUp_0 : decode cX6_setUp 0 = .ok (.aload_n 0, 1) := by decide +kernel
theorem dX6_setUp_1 : decode cX6_setUp 1 = .ok (.iload_n 1, 1) := by decide +kernel
theorem dX6_setUp_2 : decode cX6_setUp 2 = .ok (.putfield 9, 3) := by decide +kernel
theorem dX6_setUp_5 : decode cX6_setUp 5 = .ok (.aload_n 0, 1) := by decide +kernel
theorem dX6_setUp_6 : decode cX6_setUp 6 = .ok (.iload_n 2, 1) := by decide +kernel
theorem dX6_setUp_7 : decode cX6_setUp 7 = .ok (.putfield 18, 3) := by decide +kernel
theorem dX6_setUp_10 : decode cX6_setUp 10 = .ok (.aload_n 0, 1) := by decide +kernel
theorem dX6_setUp_11 : decode cX6_setUp 11 = .ok (.iload_n 3, 1) := by decide +kernel
theorem dX6_setUp_12 : decode cX6_setUp 12 = .ok (.putfield 15, 3) := by decide +kernel
theorem dX6_setUp_15 : decode cX6_setUp 15 = .ok (.aload_n 0, 1) := by decide +kernel
theorem dX6_setUp_16 : decode cX6_setUp 16 = .ok (.iconst 0, 1) := by decide +kernel
theorem dX6_setUp_17 : decode cX6_setUp 17 = .ok (.putfield 21, 3) := by decide +kernel
theorem dX6_setUp_20 : decode cX6_setUp 20 = .ok (.aload_n 0, 1) := by decide +kernel
theorem dX6_setUp_21 : decode cX6_setUp 21 = .ok (.iconst 0, 1) := by decide +kernel
theorem dX6_setUp_22 : decode cX6_setUp 22 = .ok (.putfield 24, 3) := by decide +kernel
theorem dX6_setUp_25 : decode cX6_setUp 25 = .ok (.return_, 1) := by decide +kernel
set_option maxRecDepth 20000 in
theorem ggX6_sample_X6_twist : GoodIn wsX6_sample wsX6_twist := goodIn_r _ [7] (by decide +kernel) (by decide +kernel)
set_option maxRecDepth 20000 in
theorem gX6_sample_X6_twist : GoodIn wsX6_sample (va_wsS RX6 27 yX6_twist wsX6_twist) := goodIn_app (goodIn_of _ (by decide +kernel)) ggX6_sample_X6_twist
set_option maxRecDepth 20000 in
theorem ggX6_sample_X6_untwist : GoodIn wsX6_sample wsX6_untwist := goodIn_r _ [10] (by decide +kernel) (by decide +kernel)
set_option maxRecDepth 20000 in
theorem gX6_sample_X6_untwist : GoodIn wsX6_sample (va_wsS RX6 31 yX6_untwist wsX6_untwist) := goodIn_app (goodIn_of _ (by decide +kernel)) ggX6_sample_X6_untwist
theorem dX6_sample_0 : decode cX6_sample 0 = .ok (.aload_n 0, 1) := by decide +kernel
theorem dX6_sample_1 : decode cX6_sample 1 = .ok (.aload_n 0, 1) := by decide +kernel
theorem dX6_sample_2 : decode cX6_sample 2 = .ok (.getfield 21, 3) := by decide +kernel
theorem dX6_sample_5 : decode cX6_sample 5 = .ok (.putfield 24, 3) := by decide +kernel
theorem dX6_sample_8 : decode cX6_sample 8 = .ok (.aload_n 0, 1) := by decide +kernel
theorem dX6_sample_9 : decode cX6_sample 9 = .ok (.aload_n 0, 1) := by decide +kernel
theorem dX6_sample_10 : decode cX6_sample 10 = .ok (.getfield 15, 3) := by decide +kernel
theorem dX6_sample_13 : decode cX6_sample 13 = .ok (.iconst 1, 1) := by decide +kernel
theorem dX6_sample_14 : decode cX6_sample 14 = .ok (.if_icmp .ne 18, 3) := by decide +kernel
theorem dX6_sample_17 : decode cX6_sample 17 = .ok (.iload_n 1, 1) := by decide +kernel
theorem dX6_sample_18 : decode cX6_sample 18 = .ok (.invokestatic 27, 3) := by decide +kernel
theorem dX6_sample_21 : decode cX6_sample 21 = .ok (.iload_n 2, 1) := by decide +kernel
theorem dX6_sample_22 : decode cX6_sample 22 = .ok (.invokestatic 27, 3) := by decide +kernel
theorem dX6_sample_25 : decode cX6_sample 25 = .ok (.iand, 1) := by decide +kernel
theorem dX6_sample_26 : decode cX6_sample 26 = .ok (.invokestatic 31, 3) := by decide +kernel
theorem dX6_sample_29 : decode cX6_sample 29 = .ok (.goto 6, 3) := by decide +kernel
theorem dX6_sample_32 : decode cX6_sample 32 = .ok (.iload_n 1, 1) := by decide +kernel
theorem dX6_sample_33 : decode cX6_sample 33 = .ok (.iload_n 2, 1) := by decide +kernel
theorem dX6_sample_34 : decode cX6_sample 34 = .ok (.iand, 1) := by decide +kernel
theorem dX6_sample_35 : decode cX6_sample 35 = .ok (.putfield 21, 3) := by decide +kernel
theorem dX6_sample_38 : decode cX6_sample 38 = .ok (.return_, 1) := by decide +kernel
theorem dX6_twist_0 : decode cX6_twist 0 = .ok (.iload_n 0, 1) := by decide +kernel
theorem dX6_twist_1 : decode cX6_twist 1 = .ok (.iload_n 0, 1) := by decide +kernel
theorem dX6_twist_2 : decode cX6_twist 2 = .ok (.iconst 1, 1) := by decide +kernel
theorem dX6_twist_3 : decode cX6_twist 3 = .ok (.ishr, 1) := by decide +kernel
theorem dX6_twist_4 : decode cX6_twist 4 = .ok (.ixor, 1) := by decide +kernel
theorem dX6_twist_5 : decode cX6_twist 5 = .ok (.ireturn, 1) := by decide +kernel
theorem dX6_untwist_0 : decode cX6_untwist 0 = .ok (.iload_n 0, 1) := by decide +kernel
theorem dX6_untwist_1 : decode cX6_untwist 1 = .ok (.iload_n 0, 1) := by decide +kernel
theorem dX6_untwist_2 : decode cX6_untwist 2 = .ok (.iconst 1, 1) := by decide +kernel
theorem dX6_untwist_3 : decode cX6_untwist 3 = .ok (.ishr, 1) := by decide +kernel
theorem dX6_untwist_4 : decode cX6_untwist 4 = .ok (.ixor, 1) := by decide +kernel
theorem dX6_untwist_5 : decode cX6_untwist 5 = .ok (.istore_n 1, 1) := by decide +kernel
theorem dX6_untwist_6 : decode cX6_untwist 6 = .ok (.iload_n 1, 1) := by decide +kernel
theorem dX6_untwist_7 : decode cX6_untwist 7 = .ok (.iload_n 1, 1) := by decide +kernel
theorem dX6_untwist_8 : decode cX6_untwist 8 = .ok (.iconst 2, 1) := by decide +kernel
theorem dX6_untwist_9 : decode cX6_untwist 9 = .ok (.ishr, 1) := by decide +kernel
theorem dX6_untwist_10 : decode cX6_untwist 10 = .ok (.ixor, 1) := by decide +kernel
theorem dX6_untwist_11 : decode cX6_untwist 11 = .ok (.istore_n 1, 1) := by decide +kernel
theorem dX6_untwist_12 : decode cX6_untwist 12 = .ok (.iload_n 1, 1) := by decide +kernel
theorem dX6_untwist_13 : decode cX6_untwist 13 = .ok (.iload_n 1, 1) := by decide +kernel
theorem dX6_untwist_14 : decode cX6_untwist 14 = .ok (.iconst 4, 1) := by decide +kernel
theorem dX6_untwist_15 : decode cX6_untwist 15 = .ok (.ishr, 1) := by decide +kernel
theorem dX6_untwist_16 : decode cX6_untwist 16 = .ok (.ixor, 1) := by decide +kernel
theorem dX6_untwist_17 : decode cX6_untwist 17 = .ok (.istore_n 1, 1) := by decide +kernel
theorem dX6_untwist_18 : decode cX6_untwist 18 = .ok (.iload_n 1, 1) := by decide +kernel
theorem dX6_untwist_19 : decode cX6_untwist 19 = .ok (.iload_n 1, 1) := by decide +kernel
theorem dX6_untwist_20 : decode cX6_untwist 20 = .ok (.bipush 8, 2) := by decide +kernel
theorem dX6_untwist_22 : decode cX6_untwist 22 = .ok (.ishr, 1) := by decide +kernel
theorem dX6_untwist_23 : decode cX6_untwist 23 = .ok (.ixor, 1) := by decide +kernel
theorem dX6_untwist_24 : decode cX6_untwist 24 = .ok (.istore_n 1, 1) := by decide +kernel
theorem dX6_untwist_25 : decode cX6_untwist 25 = .ok (.iload_n 1, 1) := by decide +kernel
theorem dX6_untwist_26 : decode cX6_untwist 26 = .ok (.ireturn, 1) := by decide +kernel
theorem dX6_tell_0 : decode cX6_tell 0 = .ok (.iload_n 1, 1) := by decide +kernel
theorem dX6_tell_1 : decode cX6_tell 1 = .ok (.tableswitch 60 0 4 #[35, 40, 45, 50, 55], 35) := by decide +kernel
theorem dX6_tell_36 : decode cX6_tell 36 = .ok (.aload_n 0, 1) := by decide +kernel
theorem dX6_tell_37 : decode cX6_tell 37 = .ok (.getfield 21, 3) := by decide +kernel
theorem dX6_tell_40 : decode cX6_tell 40 = .ok (.ireturn, 1) := by decide +kernel
theorem dX6_tell_41 : decode cX6_tell 41 = .ok (.aload_n 0, 1) := by decide +kernel
theorem dX6_tell_42 : decode cX6_tell 42 = .ok (.getfield 24, 3) := by decide +kernel
theorem dX6_tell_45 : decode cX6_tell 45 = .ok (.ireturn, 1) := by decide +kernel
theorem dX6_tell_46 : decode cX6_tell 46 = .ok (.aload_n 0, 1) := by decide +kernel
theorem dX6_tell_47 : decode cX6_tell 47 = .ok (.getfield 9, 3) := by decide +kernel
theorem dX6_tell_50 : decode cX6_tell 50 = .ok (.ireturn, 1) := by decide +kernel
theorem dX6_tell_51 : decode cX6_tell 51 = .ok (.aload_n 0, 1) := by decide +kernel
theorem dX6_tell_52 : decode cX6_tell 52 = .ok (.getfield 18, 3) := by decide +kernel
theorem dX6_tell_55 : decode cX6_tell 55 = .ok (.ireturn, 1) := by decide +kernel
theorem dX6_tell_56 : decode cX6_tell 56 = .ok (.aload_n 0, 1) := by decide +kernel
theorem dX6_tell_57 : decode cX6_tell 57 = .ok (.getfield 15, 3) := by decide +kernel
theorem dX6_tell_60 : decode cX6_tell 60 = .ok (.ireturn, 1) := by decide +kernel
theorem dX6_tell_61 : decode cX6_tell 61 = .ok (.bipush (-2), 2) := by decide +kernel
theorem dX6_tell_63 : decode cX6_tell 63 = .ok (.ireturn, 1) := by decide +kernel
set_option maxRecDepth 20000 in
theorem ggX7_init_X5_init : GoodIn wsX7_init wsX5_init := goodIn_r _ [33, 34, 2, 3, 35, 36, 37, 38, 39, 79, 80, 81, 82, 83, 84] (by decide +kernel) (by decide +kernel)
set_option maxRecDepth 20000 in
theorem gX7_init_X5_init_n41 : GoodIn wsX7_init (wsX5_init) := ggX7_init_X5_init
set_option maxRecDepth 20000 in
theorem ggX7_init_X6_init : GoodIn wsX7_init wsX6_init := goodIn_r _ [41, 42, 2, 3, 43, 44, 85, 86, 87, 88, 89] (by decide +kernel) (by decide +kernel)
set_option maxRecDepth 20000 in
theorem gX7_init_X6_init_n48 : GoodIn wsX7_init (wsX6_init) := ggX7_init_X6_init
set_option maxRecDepth 20000 in
theorem ggX7_init_X2_init : GoodIn wsX7_init wsX2_init := goodIn_r _ [46, 47, 2, 3, 48, 49, 50, 51, 52, 53, 90, 91, 92, 93, 94, 95, 96, 97, 98, 99, 100] (by decide +kernel) (by decide +kernel)
set_option maxRecDepth 20000 in
theorem gX7_init_X2_init_n53 : GoodIn wsX7_init (wsX2_init) := ggX7_init_X2_init
set_option maxRecDepth 20000 in
theorem ggX7_init_X3_init : GoodIn wsX7_init wsX3_init := goodIn_r _ [55, 56, 2, 3, 57, 101, 102, 103, 104, 105] (by decide +kernel) (by decide +kernel)
set_option maxRecDepth 20000 in
theorem gX7_init_X3_init_n54 : GoodIn wsX7_init (wsX3_init) := ggX7_init_X3_init
set_option maxRecDepth 20000 in
theorem ggX7_init_X0_init : GoodIn wsX7_init wsX0_init := goodIn_r _ [59, 60, 2, 3, 61, 106, 107, 108, 109, 110, 111, 112] (by decide +kernel) (by decide +kernel)
set_option maxRecDepth 20000 in
theorem gX7_init_X0_init_n55 : GoodIn wsX7_init (wsX0_init) := ggX7_init_X0_init
set_option maxRecDepth 20000 in
theorem ggX7_init_X1_init : GoodIn wsX7_init wsX1_init := goodIn_r _ [63, 64, 2, 3, 65, 113, 114, 115, 116, 117, 118, 119, 120] (by decide +kernel) (by decide +kernel)
set_option maxRecDepth 20000 in
theorem gX7_init_X1_init_n56 : GoodIn wsX7_init (wsX1_init) := ggX7_init_X1_init
set_option maxRecDepth 20000 in
theorem ggX7_init_X4_init : GoodIn wsX7_init wsX4_init := goodIn_r _ [67, 68, 2, 3, 69, 121, 122] (by decide +kernel) (by decide +kernel)
set_option maxRecDepth 20000 in
theorem gX7_init_X4_init_n57 : GoodIn wsX7_init (wsX4_init) := ggX7_init_X4_init
theorem dX7_init_0 : decode cX7_init 0 = .ok (.aload_n 0, 1) := by decide +kernel
theorem dX7_init_1 : decode cX7_init 1 = .ok (.invokespecial 3, 3) := by decide +kernel
theorem dX7_init_4 : decode cX7_init 4 = .ok (.aload_n 0, 1) := by decide +kernel
theorem dX7_init_5 : decode cX7_init 5 = .ok (.iconst 4, 1) := by decide +kernel
theorem dX7_init_6 : decode cX7_init 6 = .ok (.anewarray 9, 3) := by decide +kernel
theorem dX7_init_9 : decode cX7_init 9 = .ok (.putfield 11, 3) := by decide +kernel
theorem dX7_init_12 : decode cX7_init 12 = .ok (.aload_n 0, 1) := by decide +kernel
theorem dX7_init_13 : decode cX7_init 13 = .ok (.iconst 4, 1) := by decide +kernel
theorem dX7_init_14 : decode cX7_init 14 = .ok (.anewarray 15, 3) := by decide +kernel
theorem dX7_init_17 : decode cX7_init 17 = .ok (.putfield 17, 3) := by decide +kernel
theorem dX7_init_20 : decode cX7_init 20 = .ok (.aload_n 0, 1) := by decide +kernel
theorem dX7_init_21 : decode cX7_init 21 = .ok (.iconst 4, 1) := by decide +kernel
theorem dX7_init_22 : decode cX7_init 22 = .ok (.anewarray 21, 3) := by decide +kernel
theorem dX7_init_25 : decode cX7_init 25 = .ok (.putfield 23, 3) := by decide +kernel
theorem dX7_init_28 : decode cX7_init 28 = .ok (.aload_n 0, 1) := by decide +kernel
theorem dX7_init_29 : decode cX7_init 29 = .ok (.iconst 4, 1) := by decide +kernel
theorem dX7_init_30 : decode cX7_init 30 = .ok (.anewarray 27, 3) := by decide +kernel
theorem dX7_init_33 : decode cX7_init 33 = .ok (.putfield 29, 3) := by decide +kernel
theorem dX7_init_36 : decode cX7_init 36 = .ok (.aload_n 0, 1) := by decide +kernel
theorem dX7_init_37 : decode cX7_init 37 = .ok (.iconst 2, 1) := by decide +kernel
theorem dX7_init_38 : decode cX7_init 38 = .ok (.anewarray 33, 3) := by decide +kernel
theorem dX7_init_41 : decode cX7_init 41 = .ok (.putfield 35, 3) := by decide +kernel
theorem dX7_init_44 : decode cX7_init 44 = .ok (.aload_n 0, 1) := by decide +kernel
theorem dX7_init_45 : decode cX7_init 45 = .ok (.new 39, 3) := by decide +kernel
theorem dX7_init_48 : decode cX7_init 48 = .ok (.dup, 1) := by decide +kernel
theorem dX7_init_49 : decode cX7_init 49 = .ok (.invokespecial 41, 3) := by decide +kernel
theorem dX7_init_52 : decode cX7_init 52 = .ok (.putfield 42, 3) := by decide +kernel
theorem dX7_init_55 : decode cX7_init 55 = .ok (.aload_n 0, 1) := by decide +kernel
theorem dX7_init_56 : decode cX7_init 56 = .ok (.new 46, 3) := by decide +kernel
theorem dX7_init_59 : decode cX7_init 59 = .ok (.dup, 1) := by decide +kernel
theorem dX7_init_60 : decode cX7_init 60 = .ok (.invokespecial 48, 3) := by decide +kernel
theorem dX7_init_63 : decode cX7_init 63 = .ok (.putfield 49, 3) := by decide +kernel
theorem dX7_init_66 : decode cX7_init 66 = .ok (.iconst 0, 1) := by decide +kernel
theorem dX7_init_67 : decode cX7_init 67 = .ok (.istore_n 1, 1) := by decide +kernel
theorem dX7_init_68 : decode cX7_init 68 = .ok (.iload_n 1, 1) := by decide +kernel
theorem dX7_init_69 : decode cX7_init 69 = .ok (.iconst 4, 1) := by decide +kernel
theorem dX7_init_70 : decode cX7_init 70 = .ok (.if_icmp .ge 61, 3) := by decide +kernel
theorem dX7_init_73 : decode cX7_init 73 = .ok (.aload_n 0, 1) := by decide +kernel
theorem dX7_init_74 : decode cX7_init 74 = .ok (.getfield 11, 3) := by decide +kernel
theorem dX7_init_77 : decode cX7_init 77 = .ok (.iload_n 1, 1) := by decide +kernel
theorem dX7_init_78 : decode cX7_init 78 = .ok (.new 9, 3) := by decide +kernel
theorem dX7_init_81 : decode cX7_init 81 = .ok (.dup, 1) := by decide +kernel
theorem dX7_init_82 : decode cX7_init 82 = .ok (.invokespecial 53, 3) := by decide +kernel
theorem dX7_init_85 : decode cX7_init 85 = .ok (.aastore, 1) := by decide +kernel
theorem dX7_init_86 : decode cX7_init 86 = .ok (.aload_n 0, 1) := by decide +kernel
theorem dX7_init_87 : decode cX7_init 87 = .ok (.getfield 17, 3) := by decide +kernel
theorem dX7_init_90 : decode cX7_init 90 = .ok (.iload_n 1, 1) := by decide +kernel
theorem dX7_init_91 : decode cX7_init 91 = .ok (.new 15, 3) := by decide +kernel
theorem dX7_init_94 : decode cX7_init 94 = .ok (.dup, 1) := by decide +kernel
theorem dX7_init_95 : decode cX7_init 95 = .ok (.invokespecial 54, 3) := by decide +kernel
theorem dX7_init_98 : decode cX7_init 98 = .ok (.aastore, 1) := by decide +kernel
theorem dX7_init_99 : decode cX7_init 99 = .ok (.aload_n 0, 1) := by decide +kernel
theorem dX7_init_100 : decode cX7_init 100 = .ok (.getfield 23, 3) := by decide +kernel
theorem dX7_init_103 : decode cX7_init 103 = .ok (.iload_n 1, 1) := by decide +kernel
theorem dX7_init_104 : decode cX7_init 104 = .ok (.new 21, 3) := by decide +kernel
theorem dX7_init_107 : decode cX7_init 107 = .ok (.dup, 1) := by decide +kernel
theorem dX7_init_108 : decode cX7_init 108 = .ok (.invokespecial 55, 3) := by decide +kernel
theorem dX7_init_111 : decode cX7_init 111 = .ok (.aastore, 1) := by decide +kernel
theorem dX7_init_112 : decode cX7_init 112 = .ok (.aload_n 0, 1) := by decide +kernel
theorem dX7_init_113 : decode cX7_init 113 = .ok (.getfield 29, 3) := by decide +kernel
theorem dX7_init_116 : decode cX7_init 116 = .ok (.iload_n 1, 1) := by decide +kernel
theorem dX7_init_117 : decode cX7_init 117 = .ok (.new 27, 3) := by decide +kernel
theorem dX7_init_120 : decode cX7_init 120 = .ok (.dup, 1) := by decide +kernel
theorem dX7_init_121 : decode cX7_init 121 = .ok (.invokespecial 56, 3) := by decide +kernel
theorem dX7_init_124 : decode cX7_init 124 = .ok (.aastore, 1) := by decide +kernel
theorem dX7_init_125 : decode cX7_init 125 = .ok (.iinc 1 1, 3) := by decide +kernel
theorem dX7_init_128 : decode cX7_init 128 = .ok (.goto (-60), 3) := by decide +kernel
theorem dX7_init_131 : decode cX7_init 131 = .ok (.iconst 0, 1) := by decide +kernel
theorem dX7_init_132 : decode cX7_init 132 = .ok (.istore_n 1, 1) := by decide +kernel
theorem dX7_init_133 : decode cX7_init 133 = .ok (.iload_n 1, 1) := by decide +kernel
theorem dX7_init_134 : decode cX7_init 134 = .ok (.iconst 2, 1) := by decide +kernel
theorem dX7_init_135 : decode cX7_init 135 = .ok (.if_icmp .ge 22, 3) := by decide +kernel
theorem dX7_init_138 : decode cX7_init 138 = .ok (.aload_n 0, 1) := by decide +kernel
theorem dX7_init_139 : decode cX7_init 139 = .ok (.getfield 35, 3) := by decide +kernel
theorem dX7_init_142 : decode cX7_init 142 = .ok (.iload_n 1, 1) := by decide +kernel
theorem dX7_init_143 : decode cX7_init 143 = .ok (.new 33, 3) := by decide +kernel
theorem dX7_init_146 : decode cX7_init 146 = .ok (.dup, 1) := by decide +kernel
theorem dX7_init_147 : decode cX7_init 147 = .ok (.invokespecial 57, 3) := by decide +kernel
theorem dX7_init_150 : decode cX7_init 150 = .ok (.aastore, 1) := by decide +kernel
theorem dX7_init_151 : decode cX7_init 151 = .ok (.iinc 1 1, 3) := by decide +kernel
theorem dX7_init_154 : decode cX7_init 154 = .ok (.goto (-21), 3) := by decide +kernel
theorem dX7_init_157 : decode cX7_init 157 = .ok (.return_, 1) := by decide +kernel
set_option maxRecDepth 20000 in
theorem ggX7_counter_X7_isOneOf : GoodIn wsX7_counter wsX7_isOneOf := goodIn_r _ [5] (by decide +kernel) (by decide +kernel)
set_option maxRecDepth 20000 in
theorem gX7_counter_X7_isOneOf : GoodIn wsX7_counter (va_wsS RX7 58 yX7_isOneOf wsX7_isOneOf) := goodIn_app (goodIn_of _ (by decide +kernel)) ggX7_counter_X7_isOneOf
set_option maxRecDepth 20000 in
theorem ggX7_counter_X7_within : GoodIn wsX7_counter wsX7_within := goodIn_r _ [8] (by decide +kernel) (by decide +kernel)
set_option maxRecDepth 20000 in
theorem gX7_counter_X7_within : GoodIn wsX7_counter (va_wsS RX7 62 yX7_within wsX7_within) := goodIn_app (goodIn_of _ (by decide +kernel)) ggX7_counter_X7_within
set_option maxRecDepth 20000 in
theorem ggX7_counter_X2_setUp : GoodIn wsX7_counter wsX2_setUp := goodIn_r _ [13, 14, 15, 16, 17, 18, 19, 20, 21, 31, 32, 33, 34, 35, 36, 37, 38, 39, 40, 41] (by decide +kernel) (by decide +kernel)
set_option maxRecDepth 20000 in
theorem gX7_counter_X2_setUp : GoodIn wsX7_counter (wsV RX7 66 RX2 yX2_setUp wsX2_setUp) := goodIn_app (goodIn_of _ (by decide +kernel)) ggX7_counter_X2_setUp
theorem dX7_counter_0 : decode cX7_counter 0 = .ok (.iconst 4, 1) := by decide +kernel
theorem dX7_counter_1 : decode cX7_counter 1 = .ok (.iload_n 1, 1) := by decide +kernel
theorem dX7_counter_2 : decode cX7_counter 2 = .ok (.invokestatic 58, 3) := by decide +kernel
theorem dX7_counter_5 : decode cX7_counter 5 = .ok (.ifCond .ne 5, 3) := by decide +kernel
theorem dX7_counter_8 : decode cX7_counter 8 = .ok (.iconst (-1), 1) := by decide +kernel
theorem dX7_counter_9 : decode cX7_counter 9 = .ok (.ireturn, 1) := by decide +kernel
theorem dX7_counter_10 : decode cX7_counter 10 = .ok (.iload_n 2, 1) := by decide +kernel
theorem dX7_counter_11 : decode cX7_counter 11 = .ok (.iconst 0, 1) := by decide +kernel
theorem dX7_counter_12 : decode cX7_counter 12 = .ok (.iconst 2, 1) := by decide +kernel
theorem dX7_counter_13 : decode cX7_counter 13 = .ok (.invokestatic 62, 3) := by decide +kernel
theorem dX7_counter_16 : decode cX7_counter 16 = .ok (.ifCond .eq 25, 3) := by decide +kernel
theorem dX7_counter_19 : decode cX7_counter 19 = .ok (.iload_n 3, 1) := by decide +kernel
theorem dX7_counter_20 : decode cX7_counter 20 = .ok (.iconst 1, 1) := by decide +kernel
theorem dX7_counter_21 : decode cX7_counter 21 = .ok (.sipush 9999, 3) := by decide +kernel
theorem dX7_counter_24 : decode cX7_counter 24 = .ok (.invokestatic 62, 3) := by decide +kernel
theorem dX7_counter_27 : decode cX7_counter 27 = .ok (.ifCond .eq 14, 3) := by decide +kernel
theorem dX7_counter_30 : decode cX7_counter 30 = .ok (.iload 4, 2) := by decide +kernel
theorem dX7_counter_32 : decode cX7_counter 32 = .ok (.iconst 1, 1) := by decide +kernel
theorem dX7_counter_33 : decode cX7_counter 33 = .ok (.bipush 64, 2) := by decide +kernel
theorem dX7_counter_35 : decode cX7_counter 35 = .ok (.invokestatic 62, 3) := by decide +kernel
theorem dX7_counter_38 : decode cX7_counter 38 = .ok (.ifCond .ne 6, 3) := by decide +kernel
theorem dX7_counter_41 : decode cX7_counter 41 = .ok (.bipush (-2), 2) := by decide +kernel
theorem dX7_counter_43 : decode cX7_counter 43 = .ok (.ireturn, 1) := by decide +kernel
theorem dX7_counter_44 : decode cX7_counter 44 = .ok (.aload_n 0, 1) := by decide +kernel
theorem dX7_counter_45 : decode cX7_counter 45 = .ok (.getfield 11, 3) := by decide +kernel
theorem dX7_counter_48 : decode cX7_counter 48 = .ok (.iload_n 1, 1) := by decide +kernel
theorem dX7_counter_49 : decode cX7_counter 49 = .ok (.aaload, 1) := by decide +kernel
theorem dX7_counter_50 : decode cX7_counter 50 = .ok (.iload_n 2, 1) := by decide +kernel
theorem dX7_counter_51 : decode cX7_counter 51 = .ok (.iload_n 3, 1) := by decide +kernel
theorem dX7_counter_52 : decode cX7_counter 52 = .ok (.iload 4, 2) := by decide +kernel
theorem dX7_counter_54 : decode cX7_counter 54 = .ok (.invokevirtual 66, 3) := by decide +kernel
theorem dX7_counter_57 : decode cX7_counter 57 = .ok (.iconst 1, 1) := by decide +kernel
theorem dX7_counter_58 : decode cX7_counter 58 = .ok (.ireturn, 1) := by decide +kernel
set_option maxRecDepth 20000 in
theorem ggX7_source_X7_isOneOf : GoodIn wsX7_source wsX7_isOneOf := goodIn_r _ [6] (by decide +kernel) (by decide +kernel)
set_option maxRecDepth 20000 in
theorem gX7_source_X7_isOneOf : GoodIn wsX7_source (va_wsS RX7 58 yX7_isOneOf wsX7_isOneOf) := goodIn_app (goodIn_of _ (by decide +kernel)) ggX7_source_X7_isOneOf
set_option maxRecDepth 20000 in
theorem ggX7_source_X7_within : GoodIn wsX7_source wsX7_within := goodIn_r _ [9] (by decide +kernel) (by decide +kernel)
set_option maxRecDepth 20000 in
theorem gX7_source_X7_within : GoodIn wsX7_source (va_wsS RX7 62 yX7_within wsX7_within) := goodIn_app (goodIn_of _ (by decide +kernel)) ggX7_source_X7_within
theorem dX7_source_0 : decode cX7_source 0 = .ok (.iconst 4, 1) := by decide +kernel
theorem dX7_source_1 : decode cX7_source 1 = .ok (.iload_n 1, 1) := by decide +kernel
theorem dX7_source_2 : decode cX7_source 2 = .ok (.invokestatic 58, 3) := by decide +kernel
theorem dX7_source_5 : decode cX7_source 5 = .ok (.ifCond .ne 5, 3) := by decide +kernel
theorem dX7_source_8 : decode cX7_source 8 = .ok (.iconst (-1), 1) := by decide +kernel
theorem dX7_source_9 : decode cX7_source 9 = .ok (.ireturn, 1) := by decide +kernel
theorem dX7_source_10 : decode cX7_source 10 = .ok (.iload_n 2, 1) := by decide +kernel
theorem dX7_source_11 : decode cX7_source 11 = .ok (.iconst 0, 1) := by decide +kernel
theorem dX7_source_12 : decode cX7_source 12 = .ok (.iconst 3, 1) := by decide +kernel
theorem dX7_source_13 : decode cX7_source 13 = .ok (.invokestatic 62, 3) := by decide +kernel
theorem dX7_source_16 : decode cX7_source 16 = .ok (.ifCond .ne 6, 3) := by decide +kernel
theorem dX7_source_19 : decode cX7_source 19 = .ok (.bipush (-2), 2) := by decide +kernel
theorem dX7_source_21 : decode cX7_source 21 = .ok (.ireturn, 1) := by decide +kernel
theorem dX7_source_22 : decode cX7_source 22 = .ok (.iload_n 2, 1) := by decide +kernel
theorem dX7_source_23 : decode cX7_source 23 = .ok (.iconst 2, 1) := by decide +kernel
theorem dX7_source_24 : decode cX7_source 24 = .ok (.if_icmp .ne 10, 3) := by decide +kernel
theorem dX7_source_27 : decode cX7_source 27 = .ok (.iload_n 1, 1) := by decide +kernel
theorem dX7_source_28 : decode cX7_source 28 = .ok (.ifCond .ne 6, 3) := by decide +kernel
theorem dX7_source_31 : decode cX7_source 31 = .ok (.bipush (-3), 2) := by decide +kernel
theorem dX7_source_33 : decode cX7_source 33 = .ok (.ireturn, 1) := by decide +kernel
theorem dX7_source_34 : decode cX7_source 34 = .ok (.aload_n 0, 1) := by decide +kernel
theorem dX7_source_35 : decode cX7_source 35 = .ok (.getfield 11, 3) := by decide +kernel
theorem dX7_source_38 : decode cX7_source 38 = .ok (.iload_n 1, 1) := by decide +kernel
theorem dX7_source_39 : decode cX7_source 39 = .ok (.aaload, 1) := by decide +kernel
theorem dX7_source_40 : decode cX7_source 40 = .ok (.getfield 70, 3) := by decide +kernel
theorem dX7_source_43 : decode cX7_source 43 = .ok (.istore_n 3, 1) := by decide +kernel
theorem dX7_source_44 : decode cX7_source 44 = .ok (.aload_n 0, 1) := by decide +kernel
theorem dX7_source_45 : decode cX7_source 45 = .ok (.getfield 11, 3) := by decide +kernel
theorem dX7_source_48 : decode cX7_source 48 = .ok (.iload_n 1, 1) := by decide +kernel
theorem dX7_source_49 : decode cX7_source 49 = .ok (.aaload, 1) := by decide +kernel
theorem dX7_source_50 : decode cX7_source 50 = .ok (.iload_n 2, 1) := by decide +kernel
theorem dX7_source_51 : decode cX7_source 51 = .ok (.putfield 70, 3) := by decide +kernel
theorem dX7_source_54 : decode cX7_source 54 = .ok (.iload_n 3, 1) := by decide +kernel
theorem dX7_source_55 : decode cX7_source 55 = .ok (.ireturn, 1) := by decide +kernel
set_option maxRecDepth 20000 in
theorem ggX7_count_X7_isOneOf : GoodIn wsX7_count wsX7_isOneOf := goodIn_r _ [7] (by decide +kernel) (by decide +kernel)
set_option maxRecDepth 20000 in
theorem gX7_count_X7_isOneOf : GoodIn wsX7_count (va_wsS RX7 58 yX7_isOneOf wsX7_isOneOf) := goodIn_app (goodIn_of _ (by decide +kernel)) ggX7_count_X7_isOneOf
set_option maxRecDepth 20000 in
theorem ggX7_count_X7_within : GoodIn wsX7_count wsX7_within := goodIn_r _ [10] (by decide +kernel) (by decide +kernel)
set_option maxRecDepth 20000 in
theorem gX7_count_X7_within : GoodIn wsX7_count (va_wsS RX7 62 yX7_within wsX7_within) := goodIn_app (goodIn_of _ (by decide +kernel)) ggX7_count_X7_within
theorem dX7_count_0 : decode cX7_count 0 = .ok (.iconst 4, 1) := by decide +kernel
theorem dX7_count_1 : decode cX7_count 1 = .ok (.iload_n 1, 1) := by decide +kernel
theorem dX7_count_2 : decode cX7_count 2 = .ok (.invokestatic 58, 3) := by decide +kernel
theorem dX7_count_5 : decode cX7_count 5 = .ok (.ifCond .ne 5, 3) := by decide +kernel
theorem dX7_count_8 : decode cX7_count 8 = .ok (.iconst (-1), 1) := by decide +kernel
theorem dX7_count_9 : decode cX7_count 9 = .ok (.ireturn, 1) := by decide +kernel
theorem dX7_count_10 : decode cX7_count 10 = .ok (.iload_n 2, 1) := by decide +kernel
theorem dX7_count_11 : decode cX7_count 11 = .ok (.iconst 0, 1) := by decide +kernel
theorem dX7_count_12 : decode cX7_count 12 = .ok (.aload_n 0, 1) := by decide +kernel
theorem dX7_count_13 : decode cX7_count 13 = .ok (.getfield 11, 3) := by decide +kernel
theorem dX7_count_16 : decode cX7_count 16 = .ok (.iload_n 1, 1) := by decide +kernel
theorem dX7_count_17 : decode cX7_count 17 = .ok (.aaload, 1) := by decide +kernel
theorem dX7_count_18 : decode cX7_count 18 = .ok (.getfield 74, 3) := by decide +kernel
theorem dX7_count_21 : decode cX7_count 21 = .ok (.invokestatic 62, 3) := by decide +kernel
theorem dX7_count_24 : decode cX7_count 24 = .ok (.ifCond .ne 6, 3) := by decide +kernel
theorem dX7_count_27 : decode cX7_count 27 = .ok (.bipush (-2), 2) := by decide +kernel
theorem dX7_count_29 : decode cX7_count 29 = .ok (.ireturn, 1) := by decide +kernel
theorem dX7_count_30 : decode cX7_count 30 = .ok (.aload_n 0, 1) := by decide +kernel
theorem dX7_count_31 : decode cX7_count 31 = .ok (.getfield 11, 3) := by decide +kernel
theorem dX7_count_34 : decode cX7_count 34 = .ok (.iload_n 1, 1) := by decide +kernel
theorem dX7_count_35 : decode cX7_count 35 = .ok (.aaload, 1) := by decide +kernel
theorem dX7_count_36 : decode cX7_count 36 = .ok (.getfield 77, 3) := by decide +kernel
theorem dX7_count_39 : decode cX7_count 39 = .ok (.istore_n 3, 1) := by decide +kernel
theorem dX7_count_40 : decode cX7_count 40 = .ok (.aload_n 0, 1) := by decide +kernel
theorem dX7_count_41 : decode cX7_count 41 = .ok (.getfield 11, 3) := by decide +kernel
theorem dX7_count_44 : decode cX7_count 44 = .ok (.iload_n 1, 1) := by decide +kernel
theorem dX7_count_45 : decode cX7_count 45 = .ok (.aaload, 1) := by decide +kernel
theorem dX7_count_46 : decode cX7_count 46 = .ok (.iload_n 2, 1) := by decide +kernel
theorem dX7_count_47 : decode cX7_count 47 = .ok (.putfield 77, 3) := by decide +kernel
theorem dX7_count_50 : decode cX7_count 50 = .ok (.iload_n 3, 1) := by decide +kernel
theorem dX7_count_51 : decode cX7_count 51 = .ok (.ireturn, 1) := by decide +kernel
set_option maxRecDepth 20000 in
theorem ggX7_top_X7_isOneOf : GoodIn wsX7_top wsX7_isOneOf := goodIn_r _ [7] (by decide +kernel) (by decide +kernel)
set_option maxRecDepth 20000 in
theorem gX7_top_X7_isOneOf : GoodIn wsX7_top (va_wsS RX7 58 yX7_isOneOf wsX7_isOneOf) := goodIn_app (goodIn_of _ (by decide +kernel)) ggX7_top_X7_isOneOf
set_option maxRecDepth 20000 in
theorem ggX7_top_X7_within : GoodIn wsX7_top wsX7_within := goodIn_r _ [10] (by decide +kernel) (by decide +kernel)
set_option maxRecDepth 20000 in
theorem gX7_top_X7_within : GoodIn wsX7_top (va_wsS RX7 62 yX7_within wsX7_within) := goodIn_app (goodIn_of _ (by decide +kernel)) ggX7_top_X7_within
theorem dX7_top_0 : decode cX7_top 0 = .ok (.iconst 4, 1) := by decide +kernel
theorem dX7_top_1 : decode cX7_top 1 = .ok (.iload_n 1, 1) := by decide +kernel
theorem dX7_top_2 : decode cX7_top 2 = .ok (.invokestatic 58, 3) := by decide +kernel
theorem dX7_top_5 : decode cX7_top 5 = .ok (.ifCond .ne 5, 3) := by decide +kernel
theorem dX7_top_8 : decode cX7_top 8 = .ok (.iconst (-1), 1) := by decide +kernel
theorem dX7_top_9 : decode cX7_top 9 = .ok (.ireturn, 1) := by decide +kernel
theorem dX7_top_10 : decode cX7_top 10 = .ok (.iload_n 2, 1) := by decide +kernel
theorem dX7_top_11 : decode cX7_top 11 = .ok (.iconst 1, 1) := by decide +kernel
theorem dX7_top_12 : decode cX7_top 12 = .ok (.sipush 9999, 3) := by decide +kernel
theorem dX7_top_15 : decode cX7_top 15 = .ok (.invokestatic 62, 3) := by decide +kernel
theorem dX7_top_18 : decode cX7_top 18 = .ok (.ifCond .ne 6, 3) := by decide +kernel
theorem dX7_top_21 : decode cX7_top 21 = .ok (.bipush (-2), 2) := by decide +kernel
theorem dX7_top_23 : decode cX7_top 23 = .ok (.ireturn, 1) := by decide +kernel
theorem dX7_top_24 : decode cX7_top 24 = .ok (.aload_n 0, 1) := by decide +kernel
theorem dX7_top_25 : decode cX7_top 25 = .ok (.getfield 11, 3) := by decide +kernel
theorem dX7_top_28 : decode cX7_top 28 = .ok (.iload_n 1, 1) := by decide +kernel
theorem dX7_top_29 : decode cX7_top 29 = .ok (.aaload, 1) := by decide +kernel
theorem dX7_top_30 : decode cX7_top 30 = .ok (.iload_n 2, 1) := by decide +kernel
theorem dX7_top_31 : decode cX7_top 31 = .ok (.putfield 80, 3) := by decide +kernel
theorem dX7_top_34 : decode cX7_top 34 = .ok (.aload_n 0, 1) := by decide +kernel
theorem dX7_top_35 : decode cX7_top 35 = .ok (.getfield 11, 3) := by decide +kernel
theorem dX7_top_38 : decode cX7_top 38 = .ok (.iload_n 1, 1) := by decide +kernel
theorem dX7_top_39 : decode cX7_top 39 = .ok (.aaload, 1) := by decide +kernel
theorem dX7_top_40 : decode cX7_top 40 = .ok (.getfield 74, 3) := by decide +kernel
theorem dX7_top_43 : decode cX7_top 43 = .ok (.ireturn, 1) := by decide +kernel
set_option maxRecDepth 20000 in
theorem ggX7_ofCounter_X7_isOneOf : GoodIn wsX7_ofCounter wsX7_isOneOf := goodIn_r _ [5] (by decide +kernel) (by decide +kernel)
set_option maxRecDepth 20000 in
theorem gX7_ofCounter_X7_isOneOf : GoodIn wsX7_ofCounter (va_wsS RX7 58 yX7_isOneOf wsX7_isOneOf) := goodIn_app (goodIn_of _ (by decide +kernel)) ggX7_ofCounter_X7_isOneOf
set_option maxRecDepth 20000 in
theorem ggX7_ofCounter_X2_tell : GoodIn wsX7_ofCounter wsX2_tell := goodIn_r _ [10, 11, 12, 13, 14, 15, 16, 17, 18, 19, 29, 30, 31, 32, 33, 34, 35, 36, 37, 38, 39] (by decide +kernel) (by decide +kernel)
set_option maxRecDepth 20000 in
theorem gX7_ofCounter_X2_tell : GoodIn wsX7_ofCounter (wsV RX7 83 RX2 yX2_tell wsX2_tell) := goodIn_app (goodIn_of _ (by decide +kernel)) ggX7_ofCounter_X2_tell
theorem dX7_ofCounter_0 : decode cX7_ofCounter 0 = .ok (.iconst 4, 1) := by decide +kernel
theorem dX7_ofCounter_1 : decode cX7_ofCounter 1 = .ok (.iload_n 1, 1) := by decide +kernel
theorem dX7_ofCounter_2 : decode cX7_ofCounter 2 = .ok (.invokestatic 58, 3) := by decide +kernel
theorem dX7_ofCounter_5 : decode cX7_ofCounter 5 = .ok (.ifCond .eq 16, 3) := by decide +kernel
theorem dX7_ofCounter_8 : decode cX7_ofCounter 8 = .ok (.aload_n 0, 1) := by decide +kernel
theorem dX7_ofCounter_9 : decode cX7_ofCounter 9 = .ok (.getfield 11, 3) := by decide +kernel
theorem dX7_ofCounter_12 : decode cX7_ofCounter 12 = .ok (.iload_n 1, 1) := by decide +kernel
theorem dX7_ofCounter_13 : decode cX7_ofCounter 13 = .ok (.aaload, 1) := by decide +kernel
theorem dX7_ofCounter_14 : decode cX7_ofCounter 14 = .ok (.iload_n 2, 1) := by decide +kernel
theorem dX7_ofCounter_15 : decode cX7_ofCounter 15 = .ok (.invokevirtual 83, 3) := by decide +kernel
theorem dX7_ofCounter_18 : decode cX7_ofCounter 18 = .ok (.goto 4, 3) := by decide +kernel
theorem dX7_ofCounter_21 : decode cX7_ofCounter 21 = .ok (.iconst (-1), 1) := by decide +kernel
theorem dX7_ofCounter_22 : decode cX7_ofCounter 22 = .ok (.ireturn, 1) := by decide +kernel
set_option maxRecDepth 20000 in
theorem ggX7_input_X7_isOneOf : GoodIn wsX7_input wsX7_isOneOf := goodIn_r _ [6] (by decide +kernel) (by decide +kernel)
set_option maxRecDepth 20000 in
theorem gX7_input_X7_isOneOf : GoodIn wsX7_input (va_wsS RX7 58 yX7_isOneOf wsX7_isOneOf) := goodIn_app (goodIn_of _ (by decide +kernel)) ggX7_input_X7_isOneOf
set_option maxRecDepth 20000 in
theorem ggX7_input_X7_within : GoodIn wsX7_input wsX7_within := goodIn_r _ [9] (by decide +kernel) (by decide +kernel)
set_option maxRecDepth 20000 in
theorem gX7_input_X7_within : GoodIn wsX7_input (va_wsS RX7 62 yX7_within wsX7_within) := goodIn_app (goodIn_of _ (by decide +kernel)) ggX7_input_X7_within
theorem dX7_input_0 : decode cX7_input 0 = .ok (.iconst 4, 1) := by decide +kernel
theorem dX7_input_1 : decode cX7_input 1 = .ok (.iload_n 1, 1) := by decide +kernel
theorem dX7_input_2 : decode cX7_input 2 = .ok (.invokestatic 58, 3) := by decide +kernel
theorem dX7_input_5 : decode cX7_input 5 = .ok (.ifCond .ne 5, 3) := by decide +kernel
theorem dX7_input_8 : decode cX7_input 8 = .ok (.iconst (-1), 1) := by decide +kernel
theorem dX7_input_9 : decode cX7_input 9 = .ok (.ireturn, 1) := by decide +kernel
theorem dX7_input_10 : decode cX7_input 10 = .ok (.iload_n 2, 1) := by decide +kernel
theorem dX7_input_11 : decode cX7_input 11 = .ok (.iconst 0, 1) := by decide +kernel
theorem dX7_input_12 : decode cX7_input 12 = .ok (.iconst 1, 1) := by decide +kernel
theorem dX7_input_13 : decode cX7_input 13 = .ok (.invokestatic 62, 3) := by decide +kernel
theorem dX7_input_16 : decode cX7_input 16 = .ok (.ifCond .ne 6, 3) := by decide +kernel
theorem dX7_input_19 : decode cX7_input 19 = .ok (.bipush (-2), 2) := by decide +kernel
theorem dX7_input_21 : decode cX7_input 21 = .ok (.ireturn, 1) := by decide +kernel
theorem dX7_input_22 : decode cX7_input 22 = .ok (.aload_n 0, 1) := by decide +kernel
theorem dX7_input_23 : decode cX7_input 23 = .ok (.getfield 17, 3) := by decide +kernel
theorem dX7_input_26 : decode cX7_input 26 = .ok (.iload_n 1, 1) := by decide +kernel
theorem dX7_input_27 : decode cX7_input 27 = .ok (.aaload, 1) := by decide +kernel
theorem dX7_input_28 : decode cX7_input 28 = .ok (.getfield 87, 3) := by decide +kernel
theorem dX7_input_31 : decode cX7_input 31 = .ok (.istore_n 3, 1) := by decide +kernel
theorem dX7_input_32 : decode cX7_input 32 = .ok (.aload_n 0, 1) := by decide +kernel
theorem dX7_input_33 : decode cX7_input 33 = .ok (.getfield 17, 3) := by decide +kernel
theorem dX7_input_36 : decode cX7_input 36 = .ok (.iload_n 1, 1) := by decide +kernel
theorem dX7_input_37 : decode cX7_input 37 = .ok (.aaload, 1) := by decide +kernel
theorem dX7_input_38 : decode cX7_input 38 = .ok (.iload_n 2, 1) := by decide +kernel
theorem dX7_input_39 : decode cX7_input 39 = .ok (.putfield 87, 3) := by decide +kernel
theorem dX7_input_42 : decode cX7_input 42 = .ok (.iload_n 3, 1) := by decide +kernel
theorem dX7_input_43 : decode cX7_input 43 = .ok (.ireturn, 1) := by decide +kernel
set_option maxRecDepth 20000 in
theorem ggX7_filter_X7_isOneOf : GoodIn wsX7_filter wsX7_isOneOf := goodIn_r _ [6] (by decide +kernel) (by decide +kernel)
set_option maxRecDepth 20000 in
theorem gX7_filter_X7_isOneOf : GoodIn wsX7_filter (va_wsS RX7 58 yX7_isOneOf wsX7_isOneOf) := goodIn_app (goodIn_of _ (by decide +kernel)) ggX7_filter_X7_isOneOf
set_option maxRecDepth 20000 in
theorem ggX7_filter_X7_within : GoodIn wsX7_filter wsX7_within := goodIn_r _ [9] (by decide +kernel) (by decide +kernel)
set_option maxRecDepth 20000 in
theorem gX7_filter_X7_within : GoodIn wsX7_filter (va_wsS RX7 62 yX7_within wsX7_within) := goodIn_app (goodIn_of _ (by decide +kernel)) ggX7_filter_X7_within
theorem dX7_filter_0 : decode cX7_filter 0 = .ok (.iconst 4, 1) := by decide +kernel
theorem dX7_filter_1 : decode cX7_filter 1 = .ok (.iload_n 1, 1) := by decide +kernel
theorem dX7_filter_2 : decode cX7_filter 2 = .ok (.invokestatic 58, 3) := by decide +kernel
theorem dX7_filter_5 : decode cX7_filter 5 = .ok (.ifCond .ne 5, 3) := by decide +kernel
theorem dX7_filter_8 : decode cX7_filter 8 = .ok (.iconst (-1), 1) := by decide +kernel
theorem dX7_filter_9 : decode cX7_filter 9 = .ok (.ireturn, 1) := by decide +kernel
theorem dX7_filter_10 : decode cX7_filter 10 = .ok (.iload_n 2, 1) := by decide +kernel
theorem dX7_filter_11 : decode cX7_filter 11 = .ok (.iconst 1, 1) := by decide +kernel
theorem dX7_filter_12 : decode cX7_filter 12 = .ok (.bipush 8, 2) := by decide +kernel
theorem dX7_filter_14 : decode cX7_filter 14 = .ok (.invokestatic 62, 3) := by decide +kernel
theorem dX7_filter_17 : decode cX7_filter 17 = .ok (.ifCond .ne 6, 3) := by decide +kernel
theorem dX7_filter_20 : decode cX7_filter 20 = .ok (.bipush (-2), 2) := by decide +kernel
theorem dX7_filter_22 : decode cX7_filter 22 = .ok (.ireturn, 1) := by decide +kernel
theorem dX7_filter_23 : decode cX7_filter 23 = .ok (.aload_n 0, 1) := by decide +kernel
theorem dX7_filter_24 : decode cX7_filter 24 = .ok (.getfield 17, 3) := by decide +kernel
theorem dX7_filter_27 : decode cX7_filter 27 = .ok (.iload_n 1, 1) := by decide +kernel
theorem dX7_filter_28 : decode cX7_filter 28 = .ok (.aaload, 1) := by decide +kernel
theorem dX7_filter_29 : decode cX7_filter 29 = .ok (.getfield 90, 3) := by decide +kernel
theorem dX7_filter_32 : decode cX7_filter 32 = .ok (.istore_n 3, 1) := by decide +kernel
theorem dX7_filter_33 : decode cX7_filter 33 = .ok (.aload_n 0, 1) := by decide +kernel
theorem dX7_filter_34 : decode cX7_filter 34 = .ok (.getfield 17, 3) := by decide +kernel
theorem dX7_filter_37 : decode cX7_filter 37 = .ok (.iload_n 1, 1) := by decide +kernel
theorem dX7_filter_38 : decode cX7_filter 38 = .ok (.aaload, 1) := by decide +kernel
theorem dX7_filter_39 : decode cX7_filter 39 = .ok (.iload_n 2, 1) := by decide +kernel
theorem dX7_filter_40 : decode cX7_filter 40 = .ok (.putfield 90, 3) := by decide +kernel
theorem dX7_filter_43 : decode cX7_filter 43 = .ok (.iload_n 3, 1) := by decide +kernel
theorem dX7_filter_44 : decode cX7_filter 44 = .ok (.ireturn, 1) := by decide +kernel
set_option maxRecDepth 20000 in
theorem ggX7_ofInput_X7_isOneOf : GoodIn wsX7_ofInput wsX7_isOneOf := goodIn_r _ [5] (by decide +kernel) (by decide +kernel)
set_option maxRecDepth 20000 in
theorem gX7_ofInput_X7_isOneOf : GoodIn wsX7_ofInput (va_wsS RX7 58 yX7_isOneOf wsX7_isOneOf) := goodIn_app (goodIn_of _ (by decide +kernel)) ggX7_ofInput_X7_isOneOf
set_option maxRecDepth 20000 in
theorem ggX7_ofInput_X3_tell : GoodIn wsX7_ofInput wsX3_tell := goodIn_r _ [10, 11, 12, 13, 14, 24, 25, 26, 27, 28] (by decide +kernel) (by decide +kernel)
set_option maxRecDepth 20000 in
theorem gX7_ofInput_X3_tell : GoodIn wsX7_ofInput (wsV RX7 93 RX3 yX3_tell wsX3_tell) := goodIn_app (goodIn_of _ (by decide +kernel)) ggX7_ofInput_X3_tell
theorem dX7_ofInput_0 : decode cX7_ofInput 0 = .ok (.iconst 4, 1) := by decide +kernel
theorem dX7_ofInput_1 : decode cX7_ofInput 1 = .ok (.iload_n 1, 1) := by decide +kernel
theorem dX7_ofInput_2 : decode cX7_ofInput 2 = .ok (.invokestatic 58, 3) := by decide +kernel
theorem dX7_ofInput_5 : decode cX7_ofInput 5 = .ok (.ifCond .eq 16, 3) := by decide +kernel
theorem dX7_ofInput_8 : decode cX7_ofInput 8 = .ok (.aload_n 0, 1) := by decide +kernel
theorem dX7_ofInput_9 : decode cX7_ofInput 9 = .ok (.getfield 17, 3) := by decide +kernel
theorem dX7_ofInput_12 : decode cX7_ofInput 12 = .ok (.iload_n 1, 1) := by decide +kernel
theorem dX7_ofInput_13 : decode cX7_ofInput 13 = .ok (.aaload, 1) := by decide +kernel
theorem dX7_ofInput_14 : decode cX7_ofInput 14 = .ok (.iload_n 2, 1) := by decide +kernel
theorem dX7_ofInput_15 : decode cX7_ofInput 15 = .ok (.invokevirtual 93, 3) := by decide +kernel
theorem dX7_ofInput_18 : decode cX7_ofInput 18 = .ok (.goto 4, 3) := by decide +kernel
theorem dX7_ofInput_21 : decode cX7_ofInput 21 = .ok (.iconst (-1), 1) := by decide +kernel
theorem dX7_ofInput_22 : decode cX7_ofInput 22 = .ok (.ireturn, 1) := by decide +kernel
set_option maxRecDepth 20000 in
theorem ggX7_catcher_X7_isOneOf : GoodIn wsX7_catcher wsX7_isOneOf := goodIn_r _ [5] (by decide +kernel) (by decide +kernel)
set_option maxRecDepth 20000 in
theorem gX7_catcher_X7_isOneOf : GoodIn wsX7_catcher (va_wsS RX7 58 yX7_isOneOf wsX7_isOneOf) := goodIn_app (goodIn_of _ (by decide +kernel)) ggX7_catcher_X7_isOneOf
set_option maxRecDepth 20000 in
theorem ggX7_catcher_X7_within : GoodIn wsX7_catcher wsX7_within := goodIn_r _ [8] (by decide +kernel) (by decide +kernel)
set_option maxRecDepth 20000 in
theorem gX7_catcher_X7_within : GoodIn wsX7_catcher (va_wsS RX7 62 yX7_within wsX7_within) := goodIn_app (goodIn_of _ (by decide +kernel)) ggX7_catcher_X7_within
set_option maxRecDepth 20000 in
theorem ggX7_catcher_X0_setUp : GoodIn wsX7_catcher wsX0_setUp := goodIn_r _ [13, 14, 15, 16, 17, 18, 19, 20, 30, 31, 32, 33, 34, 35, 36] (by decide +kernel) (by decide +kernel)
set_option maxRecDepth 20000 in
theorem gX7_catcher_X0_setUp : GoodIn wsX7_catcher (wsV RX7 94 RX0 yX0_setUp wsX0_setUp) := goodIn_app (goodIn_of _ (by decide +kernel)) ggX7_catcher_X0_setUp
theorem dX7_catcher_0 : decode cX7_catcher 0 = .ok (.iconst 4, 1) := by decide +kernel
theorem dX7_catcher_1 : decode cX7_catcher 1 = .ok (.iload_n 1, 1) := by decide +kernel
theorem dX7_catcher_2 : decode cX7_catcher 2 = .ok (.invokestatic 58, 3) := by decide +kernel
theorem dX7_catcher_5 : decode cX7_catcher 5 = .ok (.ifCond .eq 11, 3) := by decide +kernel
theorem dX7_catcher_8 : decode cX7_catcher 8 = .ok (.iconst 4, 1) := by decide +kernel
theorem dX7_catcher_9 : decode cX7_catcher 9 = .ok (.iload_n 2, 1) := by decide +kernel
theorem dX7_catcher_10 : decode cX7_catcher 10 = .ok (.invokestatic 58, 3) := by decide +kernel
theorem dX7_catcher_13 : decode cX7_catcher 13 = .ok (.ifCond .ne 5, 3) := by decide +kernel
theorem dX7_catcher_16 : decode cX7_catcher 16 = .ok (.iconst (-1), 1) := by decide +kernel
theorem dX7_catcher_17 : decode cX7_catcher 17 = .ok (.ireturn, 1) := by decide +kernel
theorem dX7_catcher_18 : decode cX7_catcher 18 = .ok (.iload_n 3, 1) := by decide +kernel
theorem dX7_catcher_19 : decode cX7_catcher 19 = .ok (.iconst 0, 1) := by decide +kernel
theorem dX7_catcher_20 : decode cX7_catcher 20 = .ok (.iconst 3, 1) := by decide +kernel
theorem dX7_catcher_21 : decode cX7_catcher 21 = .ok (.invokestatic 62, 3) := by decide +kernel
theorem dX7_catcher_24 : decode cX7_catcher 24 = .ok (.ifCond .eq 13, 3) := by decide +kernel
theorem dX7_catcher_27 : decode cX7_catcher 27 = .ok (.iload 4, 2) := by decide +kernel
theorem dX7_catcher_29 : decode cX7_catcher 29 = .ok (.iconst 1, 1) := by decide +kernel
theorem dX7_catcher_30 : decode cX7_catcher 30 = .ok (.iconst 4, 1) := by decide +kernel
theorem dX7_catcher_31 : decode cX7_catcher 31 = .ok (.invokestatic 62, 3) := by decide +kernel
theorem dX7_catcher_34 : decode cX7_catcher 34 = .ok (.ifCond .ne 6, 3) := by decide +kernel
theorem dX7_catcher_37 : decode cX7_catcher 37 = .ok (.bipush (-2), 2) := by decide +kernel
theorem dX7_catcher_39 : decode cX7_catcher 39 = .ok (.ireturn, 1) := by decide +kernel
theorem dX7_catcher_40 : decode cX7_catcher 40 = .ok (.aload_n 0, 1) := by decide +kernel
theorem dX7_catcher_41 : decode cX7_catcher 41 = .ok (.getfield 23, 3) := by decide +kernel
theorem dX7_catcher_44 : decode cX7_catcher 44 = .ok (.iload_n 1, 1) := by decide +kernel
theorem dX7_catcher_45 : decode cX7_catcher 45 = .ok (.aaload, 1) := by decide +kernel
theorem dX7_catcher_46 : decode cX7_catcher 46 = .ok (.iload_n 2, 1) := by decide +kernel
theorem dX7_catcher_47 : decode cX7_catcher 47 = .ok (.iload_n 3, 1) := by decide +kernel
theorem dX7_catcher_48 : decode cX7_catcher 48 = .ok (.iload 4, 2) := by decide +kernel
theorem dX7_catcher_50 : decode cX7_catcher 50 = .ok (.invokevirtual 94, 3) := by decide +kernel
theorem dX7_catcher_53 : decode cX7_catcher 53 = .ok (.iconst 1, 1) := by decide +kernel
theorem dX7_catcher_54 : decode cX7_catcher 54 = .ok (.ireturn, 1) := by decide +kernel
set_option maxRecDepth 20000 in
theorem ggX7_taken_X7_isOneOf : GoodIn wsX7_taken wsX7_isOneOf := goodIn_r _ [5] (by decide +kernel) (by decide +kernel)
set_option maxRecDepth 20000 in
theorem gX7_taken_X7_isOneOf : GoodIn wsX7_taken (va_wsS RX7 58 yX7_isOneOf wsX7_isOneOf) := goodIn_app (goodIn_of _ (by decide +kernel)) ggX7_taken_X7_isOneOf
set_option maxRecDepth 20000 in
theorem ggX7_taken_X0_handOver : GoodIn wsX7_taken wsX0_handOver := goodIn_r _ [10, 11, 12, 22, 23, 24, 25, 26, 27, 28] (by decide +kernel) (by decide +kernel)
set_option maxRecDepth 20000 in
theorem gX7_taken_X0_handOver : GoodIn wsX7_taken (wsV RX7 95 RX0 yX0_handOver wsX0_handOver) := goodIn_app (goodIn_of _ (by decide +kernel)) ggX7_taken_X0_handOver
theorem dX7_taken_0 : decode cX7_taken 0 = .ok (.iconst 4, 1) := by decide +kernel
theorem dX7_taken_1 : decode cX7_taken 1 = .ok (.iload_n 1, 1) := by decide +kernel
theorem dX7_taken_2 : decode cX7_taken 2 = .ok (.invokestatic 58, 3) := by decide +kernel
theorem dX7_taken_5 : decode cX7_taken 5 = .ok (.ifCond .eq 15, 3) := by decide +kernel
theorem dX7_taken_8 : decode cX7_taken 8 = .ok (.aload_n 0, 1) := by decide +kernel
theorem dX7_taken_9 : decode cX7_taken 9 = .ok (.getfield 23, 3) := by decide +kernel
theorem dX7_taken_12 : decode cX7_taken 12 = .ok (.iload_n 1, 1) := by decide +kernel
theorem dX7_taken_13 : decode cX7_taken 13 = .ok (.aaload, 1) := by decide +kernel
theorem dX7_taken_14 : decode cX7_taken 14 = .ok (.invokevirtual 95, 3) := by decide +kernel
theorem dX7_taken_17 : decode cX7_taken 17 = .ok (.goto 4, 3) := by decide +kernel
theorem dX7_taken_20 : decode cX7_taken 20 = .ok (.iconst (-1), 1) := by decide +kernel
theorem dX7_taken_21 : decode cX7_taken 21 = .ok (.ireturn, 1) := by decide +kernel
set_option maxRecDepth 20000 in
theorem ggX7_ofCatcher_X7_isOneOf : GoodIn wsX7_ofCatcher wsX7_isOneOf := goodIn_r _ [5] (by decide +kernel) (by decide +kernel)
set_option maxRecDepth 20000 in
theorem gX7_ofCatcher_X7_isOneOf : GoodIn wsX7_ofCatcher (va_wsS RX7 58 yX7_isOneOf wsX7_isOneOf) := goodIn_app (goodIn_of _ (by decide +kernel)) ggX7_ofCatcher_X7_isOneOf
set_option maxRecDepth 20000 in
theorem ggX7_ofCatcher_X0_tell : GoodIn wsX7_ofCatcher wsX0_tell := goodIn_r _ [10, 11, 12, 13, 14, 15, 16, 17, 27, 28, 29, 30, 31, 32, 33] (by decide +kernel) (by decide +kernel)
set_option maxRecDepth 20000 in
theorem gX7_ofCatcher_X0_tell : GoodIn wsX7_ofCatcher (wsV RX7 99 RX0 yX0_tell wsX0_tell) := goodIn_app (goodIn_of _ (by decide +kernel)) ggX7_ofCatcher_X0_tell
theorem dX7_ofCatcher_0 : decode cX7_ofCatcher 0 = .ok (.iconst 4, 1) := by decide +kernel
theorem dX7_ofCatcher_1 : decode cX7_ofCatcher 1 = .ok (.iload_n 1, 1) := by decide +kernel
theorem dX7_ofCatcher_2 : decode cX7_ofCatcher 2 = .ok (.invokestatic 58, 3) := by decide +kernel
theorem dX7_ofCatcher_5 : decode cX7_ofCatcher 5 = .ok (.ifCond .eq 16, 3) := by decide +kernel
theorem dX7_ofCatcher_8 : decode cX7_ofCatcher 8 = .ok (.aload_n 0, 1) := by decide +kernel
theorem dX7_ofCatcher_9 : decode cX7_ofCatcher 9 = .ok (.getfield 23, 3) := by decide +kernel
theorem dX7_ofCatcher_12 : decode cX7_ofCatcher 12 = .ok (.iload_n 1, 1) := by decide +kernel
theorem dX7_ofCatcher_13 : decode cX7_ofCatcher 13 = .ok (.aaload, 1) := by decide +kernel
theorem dX7_ofCatcher_14 : decode cX7_ofCatcher 14 = .ok (.iload_n 2, 1) := by decide +kernel
theorem dX7_ofCatcher_15 : decode cX7_ofCatcher 15 = .ok (.invokevirtual 99, 3) := by decide +kernel
theorem dX7_ofCatcher_18 : decode cX7_ofCatcher 18 = .ok (.goto 4, 3) := by decide +kernel
theorem dX7_ofCatcher_21 : decode cX7_ofCatcher 21 = .ok (.iconst (-1), 1) := by decide +kernel
theorem dX7_ofCatcher_22 : decode cX7_ofCatcher 22 = .ok (.ireturn, 1) := by decide +kernel
set_option maxRecDepth 20000 in
theorem ggX7_ticks_X7_within : GoodIn wsX7_ticks wsX7_within := goodIn_r _ [5] (by decide +kernel) (by decide +kernel)
set_option maxRecDepth 20000 in
theorem gX7_ticks_X7_within : GoodIn wsX7_ticks (va_wsS RX7 62 yX7_within wsX7_within) := goodIn_app (goodIn_of _ (by decide +kernel)) ggX7_ticks_X7_within
set_option maxRecDepth 20000 in
theorem ggX7_ticks_X7_runTick : GoodIn wsX7_ticks wsX7_runTick := goodIn_r _ [9, 1, 10, 11, 12, 13, 14, 15, 16, 17, 18, 19, 20, 21, 22, 23, 24, 25, 26, 27, 28, 29, 30, 31, 32, 33, 4, 34, 35, 36, 37, 38, 39, 40, 41, 42, 43, 44, 45, 46, 47, 48, 49, 50, 51, 52, 53, 54, 55, 56, 57, 58, 59, 60, 61, 62, 63, 64, 65, 66, 67, 68, 69, 70, 71, 72, 73, 74, 75, 76, 77, 78, 79, 80, 81, 82, 83, 84, 85, 86, 87, 88, 89, 90, 91, 92, 93, 94, 95, 96, 97, 98, 99, 100, 101, 102, 103, 104, 105, 106, 107, 108, 109, 110, 111, 112, 113, 114, 115, 116, 117, 118, 119, 120, 121, 122, 123, 124, 125, 126, 127, 128, 129, 130, 131, 132, 133, 134, 135, 136, 137, 138, 139, 140, 141, 142, 143, 144, 145, 146, 147, 148, 149, 150, 151, 152, 153, 154, 155, 156, 157, 158, 159, 160, 161, 162, 163, 164, 165, 166, 167, 168, 169, 170, 171, 172, 173, 174, 175, 176, 177, 178, 179, 180, 181, 182, 183, 184, 185, 186, 187, 188, 189, 190, 191, 192, 193, 194, 195, 196, 197, 198, 199] (by decide +kernel) (by decide +kernel)
set_option maxRecDepth 20000 in
theorem gX7_ticks_X7_runTick : GoodIn wsX7_ticks (wsV RX7 100 RX7 yX7_runTick wsX7_runTick) := goodIn_app (goodIn_of _ (by decide +kernel)) ggX7_ticks_X7_runTick
theorem dX7_ticks_0 : decode cX7_ticks 0 = .ok (.iload_n 1, 1) := by decide +kernel
theorem dX7_ticks_1 : decode cX7_ticks 1 = .ok (.iconst 0, 1) := by decide +kernel
theorem dX7_ticks_2 : decode cX7_ticks 2 = .ok (.sipush 400, 3) := by decide +kernel
theorem dX7_ticks_5 : decode cX7_ticks 5 = .ok (.invokestatic 62, 3) := by decide +kernel
theorem dX7_ticks_8 : decode cX7_ticks 8 = .ok (.ifCond .ne 6, 3) := by decide +kernel
theorem dX7_ticks_11 : decode cX7_ticks 11 = .ok (.bipush (-2), 2) := by decide +kernel
theorem dX7_ticks_13 : decode cX7_ticks 13 = .ok (.ireturn, 1) := by decide +kernel
theorem dX7_ticks_14 : decode cX7_ticks 14 = .ok (.iconst 0, 1) := by decide +kernel
theorem dX7_ticks_15 : decode cX7_ticks 15 = .ok (.istore_n 2, 1) := by decide +kernel
theorem dX7_ticks_16 : decode cX7_ticks 16 = .ok (.iload_n 2, 1) := by decide +kernel
theorem dX7_ticks_17 : decode cX7_ticks 17 = .ok (.iload_n 1, 1) := by decide +kernel
theorem dX7_ticks_18 : decode cX7_ticks 18 = .ok (.if_icmp .ge 13, 3) := by decide +kernel
theorem dX7_ticks_21 : decode cX7_ticks 21 = .ok (.aload_n 0, 1) := by decide +kernel
theorem dX7_ticks_22 : decode cX7_ticks 22 = .ok (.invokevirtual 100, 3) := by decide +kernel
theorem dX7_ticks_25 : decode cX7_ticks 25 = .ok (.iinc 2 1, 3) := by decide +kernel
theorem dX7_ticks_28 : decode cX7_ticks 28 = .ok (.goto (-12), 3) := by decide +kernel
theorem dX7_ticks_31 : decode cX7_ticks 31 = .ok (.aload_n 0, 1) := by decide +kernel
theorem dX7_ticks_32 : decode cX7_ticks 32 = .ok (.getfield 103, 3) := by decide +kernel
theorem dX7_ticks_35 : decode cX7_ticks 35 = .ok (.ireturn, 1) := by decide +kernel
set_option maxRecDepth 20000 in
theorem ggX7_channel_X7_isOneOf : GoodIn wsX7_channel wsX7_isOneOf := goodIn_r _ [5] (by decide +kernel) (by decide +kernel)
set_option maxRecDepth 20000 in
theorem gX7_channel_X7_isOneOf : GoodIn wsX7_channel (va_wsS RX7 58 yX7_isOneOf wsX7_isOneOf) := goodIn_app (goodIn_of _ (by decide +kernel)) ggX7_channel_X7_isOneOf
set_option maxRecDepth 20000 in
theorem ggX7_channel_X7_within : GoodIn wsX7_channel wsX7_within := goodIn_r _ [8] (by decide +kernel) (by decide +kernel)
set_option maxRecDepth 20000 in
theorem gX7_channel_X7_within : GoodIn wsX7_channel (va_wsS RX7 62 yX7_within wsX7_within) := goodIn_app (goodIn_of _ (by decide +kernel)) ggX7_channel_X7_within
set_option maxRecDepth 20000 in
theorem ggX7_channel_X1_setUp : GoodIn wsX7_channel wsX1_setUp := goodIn_r _ [13, 14, 15, 16, 17, 18, 61, 62, 63, 64, 65, 66, 67, 68] (by decide +kernel) (by decide +kernel)
set_option maxRecDepth 20000 in
theorem gX7_channel_X1_setUp : GoodIn wsX7_channel (wsV RX7 106 RX1 yX1_setUp wsX1_setUp) := goodIn_app (goodIn_of _ (by decide +kernel)) ggX7_channel_X1_setUp
set_option maxRecDepth 20000 in
theorem ggX7_channel_X7_workOutPins : GoodIn wsX7_channel wsX7_workOutPins := goodIn_r _ [22, 23, 1, 24, 25, 26, 27, 28, 12, 29, 30, 31, 32, 33, 34, 35, 15, 18, 36, 17, 37, 38, 39, 40, 41, 42, 43, 44, 45, 46, 47, 48, 49, 50, 51, 52, 53, 54, 55, 56, 57, 58, 59, 60, 61, 62, 63, 64, 65, 66, 67, 68, 69, 70, 71, 72, 73, 74] (by decide +kernel) (by decide +kernel)
set_option maxRecDepth 20000 in
theorem gX7_channel_X7_workOutPins : GoodIn wsX7_channel (wsV RX7 107 RX7 yX7_workOutPins wsX7_workOutPins) := goodIn_app (goodIn_of _ (by decide +kernel)) ggX7_channel_X7_workOutPins
theorem dX7_channel_0 : decode cX7_channel 0 = .ok (.iconst 4, 1) := by decide +kernel
theorem dX7_channel_1 : decode cX7_channel 1 = .ok (.iload_n 1, 1) := by decide +kernel
theorem dX7_channel_2 : decode cX7_channel 2 = .ok (.invokestatic 58, 3) := by decide +kernel
theorem dX7_channel_5 : decode cX7_channel 5 = .ok (.ifCond .eq 11, 3) := by decide +kernel
theorem dX7_channel_8 : decode cX7_channel 8 = .ok (.iconst 4, 1) := by decide +kernel
theorem dX7_channel_9 : decode cX7_channel 9 = .ok (.iload_n 2, 1) := by decide +kernel
theorem dX7_channel_10 : decode cX7_channel 10 = .ok (.invokestatic 58, 3) := by decide +kernel
theorem dX7_channel_13 : decode cX7_channel 13 = .ok (.ifCond .ne 5, 3) := by decide +kernel
theorem dX7_channel_16 : decode cX7_channel 16 = .ok (.iconst (-1), 1) := by decide +kernel
theorem dX7_channel_17 : decode cX7_channel 17 = .ok (.ireturn, 1) := by decide +kernel
theorem dX7_channel_18 : decode cX7_channel 18 = .ok (.iload_n 3, 1) := by decide +kernel
theorem dX7_channel_19 : decode cX7_channel 19 = .ok (.iconst 0, 1) := by decide +kernel
theorem dX7_channel_20 : decode cX7_channel 20 = .ok (.iconst 4, 1) := by decide +kernel
theorem dX7_channel_21 : decode cX7_channel 21 = .ok (.invokestatic 62, 3) := by decide +kernel
theorem dX7_channel_24 : decode cX7_channel 24 = .ok (.ifCond .eq 15, 3) := by decide +kernel
theorem dX7_channel_27 : decode cX7_channel 27 = .ok (.iload 4, 2) := by decide +kernel
theorem dX7_channel_29 : decode cX7_channel 29 = .ok (.iconst 0, 1) := by decide +kernel
theorem dX7_channel_30 : decode cX7_channel 30 = .ok (.sipush 9999, 3) := by decide +kernel
theorem dX7_channel_33 : decode cX7_channel 33 = .ok (.invokestatic 62, 3) := by decide +kernel
theorem dX7_channel_36 : decode cX7_channel 36 = .ok (.ifCond .ne 6, 3) := by decide +kernel
theorem dX7_channel_39 : decode cX7_channel 39 = .ok (.bipush (-2), 2) := by decide +kernel
theorem dX7_channel_41 : decode cX7_channel 41 = .ok (.ireturn, 1) := by decide +kernel
theorem dX7_channel_42 : decode cX7_channel 42 = .ok (.aload_n 0, 1) := by decide +kernel
theorem dX7_channel_43 : decode cX7_channel 43 = .ok (.getfield 29, 3) := by decide +kernel
theorem dX7_channel_46 : decode cX7_channel 46 = .ok (.iload_n 1, 1) := by decide +kernel
theorem dX7_channel_47 : decode cX7_channel 47 = .ok (.aaload, 1) := by decide +kernel
theorem dX7_channel_48 : decode cX7_channel 48 = .ok (.iload_n 2, 1) := by decide +kernel
theorem dX7_channel_49 : decode cX7_channel 49 = .ok (.iload_n 3, 1) := by decide +kernel
theorem dX7_channel_50 : decode cX7_channel 50 = .ok (.iload 4, 2) := by decide +kernel
theorem dX7_channel_52 : decode cX7_channel 52 = .ok (.invokevirtual 106, 3) := by decide +kernel
theorem dX7_channel_55 : decode cX7_channel 55 = .ok (.aload_n 0, 1) := by decide +kernel
theorem dX7_channel_56 : decode cX7_channel 56 = .ok (.invokevirtual 107, 3) := by decide +kernel
theorem dX7_channel_59 : decode cX7_channel 59 = .ok (.iconst 1, 1) := by decide +kernel
theorem dX7_channel_60 : decode cX7_channel 60 = .ok (.ireturn, 1) := by decide +kernel
set_option maxRecDepth 20000 in
theorem ggX7_outputs_X7_isOneOf : GoodIn wsX7_outputs wsX7_isOneOf := goodIn_r _ [5] (by decide +kernel) (by decide +kernel)
set_option maxRecDepth 20000 in
theorem gX7_outputs_X7_isOneOf : GoodIn wsX7_outputs (va_wsS RX7 58 yX7_isOneOf wsX7_isOneOf) := goodIn_app (goodIn_of _ (by decide +kernel)) ggX7_outputs_X7_isOneOf
set_option maxRecDepth 20000 in
theorem ggX7_outputs_X7_within : GoodIn wsX7_outputs wsX7_within := goodIn_r _ [8] (by decide +kernel) (by decide +kernel)
set_option maxRecDepth 20000 in
theorem gX7_outputs_X7_within : GoodIn wsX7_outputs (va_wsS RX7 62 yX7_within wsX7_within) := goodIn_app (goodIn_of _ (by decide +kernel)) ggX7_outputs_X7_within
set_option maxRecDepth 20000 in
theorem ggX7_outputs_X7_isSetOfOutputs : GoodIn wsX7_outputs wsX7_isSetOfOutputs := goodIn_r _ [11, 6, 7, 4, 8] (by decide +kernel) (by decide +kernel)
set_option maxRecDepth 20000 in
theorem gX7_outputs_X7_isSetOfOutputs : GoodIn wsX7_outputs (va_wsS RX7 110 yX7_isSetOfOutputs wsX7_isSetOfOutputs) := goodIn_app (goodIn_of _ (by decide +kernel)) ggX7_outputs_X7_isSetOfOutputs
set_option maxRecDepth 20000 in
theorem ggX7_outputs_X1_shapeOutputs : GoodIn wsX7_outputs wsX1_shapeOutputs := goodIn_r _ [16, 17, 18, 19, 62, 63, 64, 65, 66, 67, 68, 69] (by decide +kernel) (by decide +kernel)
set_option maxRecDepth 20000 in
theorem gX7_outputs_X1_shapeOutputs : GoodIn wsX7_outputs (wsV RX7 114 RX1 yX1_shapeOutputs wsX1_shapeOutputs) := goodIn_app (goodIn_of _ (by decide +kernel)) ggX7_outputs_X1_shapeOutputs
set_option maxRecDepth 20000 in
theorem ggX7_outputs_X7_workOutPins : GoodIn wsX7_outputs wsX7_workOutPins := goodIn_r _ [23, 24, 1, 25, 26, 27, 28, 29, 15, 30, 19, 18, 31, 32, 33, 34, 35, 36, 17, 37, 38, 39, 40, 41, 42, 43, 44, 45, 46, 47, 48, 49, 50, 51, 52, 53, 54, 55, 56, 57, 58, 59, 60, 61, 62, 63, 64, 65, 66, 67, 68, 69, 70, 71, 72, 73, 74, 75] (by decide +kernel) (by decide +kernel)
set_option maxRecDepth 20000 in
theorem gX7_outputs_X7_workOutPins : GoodIn wsX7_outputs (wsV RX7 107 RX7 yX7_workOutPins wsX7_workOutPins) := goodIn_app (goodIn_of _ (by decide +kernel)) ggX7_outputs_X7_workOutPins
theorem dX7_outputs_0 : decode cX7_outputs 0 = .ok (.iconst 4, 1) := by decide +kernel
theorem dX7_outputs_1 : decode cX7_outputs 1 = .ok (.iload_n 1, 1) := by decide +kernel
theorem dX7_outputs_2 : decode cX7_outputs 2 = .ok (.invokestatic 58, 3) := by decide +kernel
theorem dX7_outputs_5 : decode cX7_outputs 5 = .ok (.ifCond .ne 5, 3) := by decide +kernel
theorem dX7_outputs_8 : decode cX7_outputs 8 = .ok (.iconst (-1), 1) := by decide +kernel
theorem dX7_outputs_9 : decode cX7_outputs 9 = .ok (.ireturn, 1) := by decide +kernel
theorem dX7_outputs_10 : decode cX7_outputs 10 = .ok (.iload_n 2, 1) := by decide +kernel
theorem dX7_outputs_11 : decode cX7_outputs 11 = .ok (.iconst 0, 1) := by decide +kernel
theorem dX7_outputs_12 : decode cX7_outputs 12 = .ok (.bipush 20, 2) := by decide +kernel
theorem dX7_outputs_14 : decode cX7_outputs 14 = .ok (.invokestatic 62, 3) := by decide +kernel
theorem dX7_outputs_17 : decode cX7_outputs 17 = .ok (.ifCond .eq 18, 3) := by decide +kernel
theorem dX7_outputs_20 : decode cX7_outputs 20 = .ok (.iload_n 3, 1) := by decide +kernel
theorem dX7_outputs_21 : decode cX7_outputs 21 = .ok (.invokestatic 110, 3) := by decide +kernel
theorem dX7_outputs_24 : decode cX7_outputs 24 = .ok (.ifCond .eq 11, 3) := by decide +kernel
theorem dX7_outputs_27 : decode cX7_outputs 27 = .ok (.iload 4, 2) := by decide +kernel
theorem dX7_outputs_29 : decode cX7_outputs 29 = .ok (.invokestatic 110, 3) := by decide +kernel
theorem dX7_outputs_32 : decode cX7_outputs 32 = .ok (.ifCond .ne 6, 3) := by decide +kernel
theorem dX7_outputs_35 : decode cX7_outputs 35 = .ok (.bipush (-2), 2) := by decide +kernel
theorem dX7_outputs_37 : decode cX7_outputs 37 = .ok (.ireturn, 1) := by decide +kernel
theorem dX7_outputs_38 : decode cX7_outputs 38 = .ok (.aload_n 0, 1) := by decide +kernel
theorem dX7_outputs_39 : decode cX7_outputs 39 = .ok (.getfield 29, 3) := by decide +kernel
theorem dX7_outputs_42 : decode cX7_outputs 42 = .ok (.iload_n 1, 1) := by decide +kernel
theorem dX7_outputs_43 : decode cX7_outputs 43 = .ok (.aaload, 1) := by decide +kernel
theorem dX7_outputs_44 : decode cX7_outputs 44 = .ok (.iload_n 2, 1) := by decide +kernel
theorem dX7_outputs_45 : decode cX7_outputs 45 = .ok (.iload_n 3, 1) := by decide +kernel
theorem dX7_outputs_46 : decode cX7_outputs 46 = .ok (.iload 4, 2) := by decide +kernel
theorem dX7_outputs_48 : decode cX7_outputs 48 = .ok (.invokevirtual 114, 3) := by decide +kernel
theorem dX7_outputs_51 : decode cX7_outputs 51 = .ok (.aload_n 0, 1) := by decide +kernel
theorem dX7_outputs_52 : decode cX7_outputs 52 = .ok (.invokevirtual 107, 3) := by decide +kernel
theorem dX7_outputs_55 : decode cX7_outputs 55 = .ok (.iconst 1, 1) := by decide +kernel
theorem dX7_outputs_56 : decode cX7_outputs 56 = .ok (.ireturn, 1) := by decide +kernel
set_option maxRecDepth 20000 in
theorem ggX7_ofChannel_X7_isOneOf : GoodIn wsX7_ofChannel wsX7_isOneOf := goodIn_r _ [6] (by decide +kernel) (by decide +kernel)
set_option maxRecDepth 20000 in
theorem gX7_ofChannel_X7_isOneOf : GoodIn wsX7_ofChannel (va_wsS RX7 58 yX7_isOneOf wsX7_isOneOf) := goodIn_app (goodIn_of _ (by decide +kernel)) ggX7_ofChannel_X7_isOneOf
set_option maxRecDepth 20000 in
theorem ggX7_ofChannel_X1_tell : GoodIn wsX7_ofChannel wsX1_tell := goodIn_r _ [11, 12, 13, 14, 15, 16, 17, 18, 19, 20, 21, 22, 10, 23, 33, 34, 35, 36, 37, 38, 39, 40] (by decide +kernel) (by decide +kernel)
set_option maxRecDepth 20000 in
theorem gX7_ofChannel_X1_tell : GoodIn wsX7_ofChannel (wsV RX7 121 RX1 yX1_tell wsX1_tell) := goodIn_app (goodIn_of _ (by decide +kernel)) ggX7_ofChannel_X1_tell
theorem dX7_ofChannel_0 : decode cX7_ofChannel 0 = .ok (.iconst 4, 1) := by decide +kernel
theorem dX7_ofChannel_1 : decode cX7_ofChannel 1 = .ok (.iload_n 1, 1) := by decide +kernel
theorem dX7_ofChannel_2 : decode cX7_ofChannel 2 = .ok (.invokestatic 58, 3) := by decide +kernel
theorem dX7_ofChannel_5 : decode cX7_ofChannel 5 = .ok (.ifCond .eq 20, 3) := by decide +kernel
theorem dX7_ofChannel_8 : decode cX7_ofChannel 8 = .ok (.aload_n 0, 1) := by decide +kernel
theorem dX7_ofChannel_9 : decode cX7_ofChannel 9 = .ok (.getfield 29, 3) := by decide +kernel
theorem dX7_ofChannel_12 : decode cX7_ofChannel 12 = .ok (.iload_n 1, 1) := by decide +kernel
theorem dX7_ofChannel_13 : decode cX7_ofChannel 13 = .ok (.aaload, 1) := by decide +kernel
theorem dX7_ofChannel_14 : decode cX7_ofChannel 14 = .ok (.iload_n 2, 1) := by decide +kernel
theorem dX7_ofChannel_15 : decode cX7_ofChannel 15 = .ok (.aload_n 0, 1) := by decide +kernel
theorem dX7_ofChannel_16 : decode cX7_ofChannel 16 = .ok (.getfield 117, 3) := by decide +kernel
theorem dX7_ofChannel_19 : decode cX7_ofChannel 19 = .ok (.invokevirtual 121, 3) := by decide +kernel
theorem dX7_ofChannel_22 : decode cX7_ofChannel 22 = .ok (.goto 4, 3) := by decide +kernel
theorem dX7_ofChannel_25 : decode cX7_ofChannel 25 = .ok (.iconst (-1), 1) := by decide +kernel
theorem dX7_ofChannel_26 : decode cX7_ofChannel 26 = .ok (.ireturn, 1) := by decide +kernel
set_option maxRecDepth 20000 in
theorem ggX7_pin_X7_isOneOf : GoodIn wsX7_pin wsX7_isOneOf := goodIn_r _ [6] (by decide +kernel) (by decide +kernel)
set_option maxRecDepth 20000 in
theorem gX7_pin_X7_isOneOf : GoodIn wsX7_pin (va_wsS RX7 58 yX7_isOneOf wsX7_isOneOf) := goodIn_app (goodIn_of _ (by decide +kernel)) ggX7_pin_X7_isOneOf
theorem dX7_pin_0 : decode cX7_pin 0 = .ok (.bipush 8, 2) := by decide +kernel
theorem dX7_pin_2 : decode cX7_pin 2 = .ok (.iload_n 1, 1) := by decide +kernel
theorem dX7_pin_3 : decode cX7_pin 3 = .ok (.invokestatic 58, 3) := by decide +kernel
theorem dX7_pin_6 : decode cX7_pin 6 = .ok (.ifCond .eq 15, 3) := by decide +kernel
theorem dX7_pin_9 : decode cX7_pin 9 = .ok (.aload_n 0, 1) := by decide +kernel
theorem dX7_pin_10 : decode cX7_pin 10 = .ok (.getfield 42, 3) := by decide +kernel
theorem dX7_pin_13 : decode cX7_pin 13 = .ok (.getfield 124, 3) := by decide +kernel
theorem dX7_pin_16 : decode cX7_pin 16 = .ok (.iload_n 1, 1) := by decide +kernel
theorem dX7_pin_17 : decode cX7_pin 17 = .ok (.iaload, 1) := by decide +kernel
theorem dX7_pin_18 : decode cX7_pin 18 = .ok (.goto 5, 3) := by decide +kernel
theorem dX7_pin_21 : decode cX7_pin 21 = .ok (.bipush (-2), 2) := by decide +kernel
theorem dX7_pin_23 : decode cX7_pin 23 = .ok (.ireturn, 1) := by decide +kernel
set_option maxRecDepth 20000 in
theorem ggX7_brake_X7_workOutPins : GoodIn wsX7_brake wsX7_workOutPins := goodIn_r _ [6, 7, 8, 1, 9, 10, 11, 12, 13, 14, 15, 16, 17, 18, 19, 20, 21, 22, 23, 24, 25, 26, 27, 28, 29, 30, 31, 32, 33, 34, 35, 36, 37, 38, 39, 40, 41, 42, 43, 44, 45, 46, 47, 48, 49, 50, 51, 52, 53, 54, 55, 56, 57, 58, 59, 60, 61, 62] (by decide +kernel) (by decide +kernel)
set_option maxRecDepth 20000 in
theorem gX7_brake_X7_workOutPins : GoodIn wsX7_brake (wsV RX7 107 RX7 yX7_workOutPins wsX7_workOutPins) := goodIn_app (goodIn_of _ (by decide +kernel)) ggX7_brake_X7_workOutPins
theorem dX7_brake_0 : decode cX7_brake 0 = .ok (.aload_n 0, 1) := by decide +kernel
theorem dX7_brake_1 : decode cX7_brake 1 = .ok (.getfield 117, 3) := by decide +kernel
theorem dX7_brake_4 : decode cX7_brake 4 = .ok (.ifCond .eq 7, 3) := by decide +kernel
theorem dX7_brake_7 : decode cX7_brake 7 = .ok (.iconst 0, 1) := by decide +kernel
theorem dX7_brake_8 : decode cX7_brake 8 = .ok (.goto 4, 3) := by decide +kernel
theorem dX7_brake_11 : decode cX7_brake 11 = .ok (.iconst 1, 1) := by decide +kernel
theorem dX7_brake_12 : decode cX7_brake 12 = .ok (.istore_n 1, 1) := by decide +kernel
theorem dX7_brake_13 : decode cX7_brake 13 = .ok (.aload_n 0, 1) := by decide +kernel
theorem dX7_brake_14 : decode cX7_brake 14 = .ok (.iconst 1, 1) := by decide +kernel
theorem dX7_brake_15 : decode cX7_brake 15 = .ok (.putfield 117, 3) := by decide +kernel
theorem dX7_brake_18 : decode cX7_brake 18 = .ok (.aload_n 0, 1) := by decide +kernel
theorem dX7_brake_19 : decode cX7_brake 19 = .ok (.invokevirtual 107, 3) := by decide +kernel
theorem dX7_brake_22 : decode cX7_brake 22 = .ok (.iload_n 1, 1) := by decide +kernel
theorem dX7_brake_23 : decode cX7_brake 23 = .ok (.ireturn, 1) := by decide +kernel
set_option maxRecDepth 20000 in
theorem ggX7_arm_X7_workOutPins : GoodIn wsX7_arm wsX7_workOutPins := goodIn_r _ [6, 7, 8, 1, 9, 10, 11, 12, 13, 14, 15, 16, 17, 18, 19, 20, 21, 22, 23, 24, 25, 26, 27, 28, 29, 30, 31, 32, 33, 34, 35, 36, 37, 38, 39, 40, 41, 42, 43, 44, 45, 46, 47, 48, 49, 50, 51, 52, 53, 54, 55, 56, 57, 58, 59, 60, 61, 62] (by decide +kernel) (by decide +kernel)
set_option maxRecDepth 20000 in
theorem gX7_arm_X7_workOutPins : GoodIn wsX7_arm (wsV RX7 107 RX7 yX7_workOutPins wsX7_workOutPins) := goodIn_app (goodIn_of _ (by decide +kernel)) ggX7_arm_X7_workOutPins
theorem dX7_arm_0 : decode cX7_arm 0 = .ok (.aload_n 0, 1) := by decide +kernel
theorem dX7_arm_1 : decode cX7_arm 1 = .ok (.getfield 117, 3) := by decide +kernel
theorem dX7_arm_4 : decode cX7_arm 4 = .ok (.ifCond .eq 7, 3) := by decide +kernel
theorem dX7_arm_7 : decode cX7_arm 7 = .ok (.iconst 1, 1) := by decide +kernel
theorem dX7_arm_8 : decode cX7_arm 8 = .ok (.goto 4, 3) := by decide +kernel
theorem dX7_arm_11 : decode cX7_arm 11 = .ok (.iconst 0, 1) := by decide +kernel
theorem dX7_arm_12 : decode cX7_arm 12 = .ok (.istore_n 1, 1) := by decide +kernel
theorem dX7_arm_13 : decode cX7_arm 13 = .ok (.aload_n 0, 1) := by decide +kernel
theorem dX7_arm_14 : decode cX7_arm 14 = .ok (.iconst 0, 1) := by decide +kernel
theorem dX7_arm_15 : decode cX7_arm 15 = .ok (.putfield 117, 3) := by decide +kernel
theorem dX7_arm_18 : decode cX7_arm 18 = .ok (.aload_n 0, 1) := by decide +kernel
theorem dX7_arm_19 : decode cX7_arm 19 = .ok (.invokevirtual 107, 3) := by decide +kernel
theorem dX7_arm_22 : decode cX7_arm 22 = .ok (.iload_n 1, 1) := by decide +kernel
theorem dX7_arm_23 : decode cX7_arm 23 = .ok (.ireturn, 1) := by decide +kernel
set_option maxRecDepth 20000 in
theorem ggX7_record_X7_isOneOf : GoodIn wsX7_record wsX7_isOneOf := goodIn_r _ [5] (by decide +kernel) (by decide +kernel)
set_option maxRecDepth 20000 in
theorem gX7_record_X7_isOneOf : GoodIn wsX7_record (va_wsS RX7 58 yX7_isOneOf wsX7_isOneOf) := goodIn_app (goodIn_of _ (by decide +kernel)) ggX7_record_X7_isOneOf
set_option maxRecDepth 20000 in
theorem ggX7_record_X5_tell : GoodIn wsX7_record wsX5_tell := goodIn_r _ [10, 11, 12, 13, 14, 15, 16, 4, 17, 27, 28, 29, 30, 31, 32] (by decide +kernel) (by decide +kernel)
set_option maxRecDepth 20000 in
theorem gX7_record_X5_tell : GoodIn wsX7_record (wsV RX7 128 RX5 yX5_tell wsX5_tell) := goodIn_app (goodIn_of _ (by decide +kernel)) ggX7_record_X5_tell
theorem dX7_record_0 : decode cX7_record 0 = .ok (.bipush 24, 2) := by decide +kernel
theorem dX7_record_2 : decode cX7_record 2 = .ok (.iload_n 1, 1) := by decide +kernel
theorem dX7_record_3 : decode cX7_record 3 = .ok (.invokestatic 58, 3) := by decide +kernel
theorem dX7_record_6 : decode cX7_record 6 = .ok (.ifCond .eq 15, 3) := by decide +kernel
theorem dX7_record_9 : decode cX7_record 9 = .ok (.aload_n 0, 1) := by decide +kernel
theorem dX7_record_10 : decode cX7_record 10 = .ok (.getfield 42, 3) := by decide +kernel
theorem dX7_record_13 : decode cX7_record 13 = .ok (.iload_n 1, 1) := by decide +kernel
theorem dX7_record_14 : decode cX7_record 14 = .ok (.iload_n 2, 1) := by decide +kernel
theorem dX7_record_15 : decode cX7_record 15 = .ok (.invokevirtual 128, 3) := by decide +kernel
theorem dX7_record_18 : decode cX7_record 18 = .ok (.goto 5, 3) := by decide +kernel
theorem dX7_record_21 : decode cX7_record 21 = .ok (.bipush (-2), 2) := by decide +kernel
theorem dX7_record_23 : decode cX7_record 23 = .ok (.ireturn, 1) := by decide +kernel
set_option maxRecDepth 20000 in
theorem ggX7_holds_X7_isOneOf : GoodIn wsX7_holds wsX7_isOneOf := goodIn_r _ [7] (by decide +kernel) (by decide +kernel)
set_option maxRecDepth 20000 in
theorem gX7_holds_X7_isOneOf : GoodIn wsX7_holds (va_wsS RX7 58 yX7_isOneOf wsX7_isOneOf) := goodIn_app (goodIn_of _ (by decide +kernel)) ggX7_holds_X7_isOneOf
set_option maxRecDepth 20000 in
theorem ggX7_holds_X7_within : GoodIn wsX7_holds wsX7_within := goodIn_r _ [10] (by decide +kernel) (by decide +kernel)
set_option maxRecDepth 20000 in
theorem gX7_holds_X7_within : GoodIn wsX7_holds (va_wsS RX7 62 yX7_within wsX7_within) := goodIn_app (goodIn_of _ (by decide +kernel)) ggX7_holds_X7_within
theorem dX7_holds_0 : decode cX7_holds 0 = .ok (.iconst 2, 1) := by decide +kernel
theorem dX7_holds_1 : decode cX7_holds 1 = .ok (.iload_n 1, 1) := by decide +kernel
theorem dX7_holds_2 : decode cX7_holds 2 = .ok (.invokestatic 58, 3) := by decide +kernel
theorem dX7_holds_5 : decode cX7_holds 5 = .ok (.ifCond .ne 5, 3) := by decide +kernel
theorem dX7_holds_8 : decode cX7_holds 8 = .ok (.iconst (-1), 1) := by decide +kernel
theorem dX7_holds_9 : decode cX7_holds 9 = .ok (.ireturn, 1) := by decide +kernel
theorem dX7_holds_10 : decode cX7_holds 10 = .ok (.iload_n 2, 1) := by decide +kernel
theorem dX7_holds_11 : decode cX7_holds 11 = .ok (.iconst 0, 1) := by decide +kernel
theorem dX7_holds_12 : decode cX7_holds 12 = .ok (.iconst 1, 1) := by decide +kernel
theorem dX7_holds_13 : decode cX7_holds 13 = .ok (.invokestatic 62, 3) := by decide +kernel
theorem dX7_holds_16 : decode cX7_holds 16 = .ok (.ifCond .ne 6, 3) := by decide +kernel
theorem dX7_holds_19 : decode cX7_holds 19 = .ok (.bipush (-2), 2) := by decide +kernel
theorem dX7_holds_21 : decode cX7_holds 21 = .ok (.ireturn, 1) := by decide +kernel
theorem dX7_holds_22 : decode cX7_holds 22 = .ok (.aload_n 0, 1) := by decide +kernel
theorem dX7_holds_23 : decode cX7_holds 23 = .ok (.getfield 35, 3) := by decide +kernel
theorem dX7_holds_26 : decode cX7_holds 26 = .ok (.iload_n 1, 1) := by decide +kernel
theorem dX7_holds_27 : decode cX7_holds 27 = .ok (.aaload, 1) := by decide +kernel
theorem dX7_holds_28 : decode cX7_holds 28 = .ok (.getfield 131, 3) := by decide +kernel
theorem dX7_holds_31 : decode cX7_holds 31 = .ok (.istore_n 3, 1) := by decide +kernel
theorem dX7_holds_32 : decode cX7_holds 32 = .ok (.aload_n 0, 1) := by decide +kernel
theorem dX7_holds_33 : decode cX7_holds 33 = .ok (.getfield 35, 3) := by decide +kernel
theorem dX7_holds_36 : decode cX7_holds 36 = .ok (.iload_n 1, 1) := by decide +kernel
theorem dX7_holds_37 : decode cX7_holds 37 = .ok (.aaload, 1) := by decide +kernel
theorem dX7_holds_38 : decode cX7_holds 38 = .ok (.iload_n 2, 1) := by decide +kernel
theorem dX7_holds_39 : decode cX7_holds 39 = .ok (.putfield 131, 3) := by decide +kernel
theorem dX7_holds_42 : decode cX7_holds 42 = .ok (.aload_n 0, 1) := by decide +kernel
theorem dX7_holds_43 : decode cX7_holds 43 = .ok (.getfield 35, 3) := by decide +kernel
theorem dX7_holds_46 : decode cX7_holds 46 = .ok (.iload_n 1, 1) := by decide +kernel
theorem dX7_holds_47 : decode cX7_holds 47 = .ok (.aaload, 1) := by decide +kernel
theorem dX7_holds_48 : decode cX7_holds 48 = .ok (.bipush (-9), 2) := by decide +kernel
theorem dX7_holds_50 : decode cX7_holds 50 = .ok (.putfield 134, 3) := by decide +kernel
theorem dX7_holds_53 : decode cX7_holds 53 = .ok (.iload_n 3, 1) := by decide +kernel
theorem dX7_holds_54 : decode cX7_holds 54 = .ok (.ireturn, 1) := by decide +kernel
set_option maxRecDepth 20000 in
theorem ggX7_read_X7_isOneOf : GoodIn wsX7_read wsX7_isOneOf := goodIn_r _ [8] (by decide +kernel) (by decide +kernel)
set_option maxRecDepth 20000 in
theorem gX7_read_X7_isOneOf : GoodIn wsX7_read (va_wsS RX7 58 yX7_isOneOf wsX7_isOneOf) := goodIn_app (goodIn_of _ (by decide +kernel)) ggX7_read_X7_isOneOf
set_option maxRecDepth 20000 in
theorem ggX7_read_X7_within : GoodIn wsX7_read wsX7_within := goodIn_r _ [11] (by decide +kernel) (by decide +kernel)
set_option maxRecDepth 20000 in
theorem gX7_read_X7_within : GoodIn wsX7_read (va_wsS RX7 62 yX7_within wsX7_within) := goodIn_app (goodIn_of _ (by decide +kernel)) ggX7_read_X7_within
set_option maxRecDepth 20000 in
theorem ggX7_read_X7_isWhole : GoodIn wsX7_read wsX7_isWhole := goodIn_r _ [15, 1, 16, 17, 18, 26, 27, 28, 29, 30, 31, 32, 33, 34, 35, 36, 37, 38, 39, 40, 41, 42, 43, 44, 45] (by decide +kernel) (by decide +kernel)
set_option maxRecDepth 20000 in
theorem gX7_read_X7_isWhole : GoodIn wsX7_read (wsV RX7 137 RX7 yX7_isWhole wsX7_isWhole) := goodIn_app (goodIn_of _ (by decide +kernel)) ggX7_read_X7_isWhole
set_option maxRecDepth 20000 in
theorem ggX7_read_X4_takeHigh : GoodIn wsX7_read wsX4_takeHigh := goodIn_r _ [23, 24, 25, 46, 47] (by decide +kernel) (by decide +kernel)
set_option maxRecDepth 20000 in
theorem gX7_read_X4_takeHigh : GoodIn wsX7_read (wsV RX7 140 RX4 yX4_takeHigh wsX4_takeHigh) := goodIn_app (goodIn_of _ (by decide +kernel)) ggX7_read_X4_takeHigh
theorem dX7_read_0 : decode cX7_read 0 = .ok (.iconst 2, 1) := by decide +kernel
theorem dX7_read_1 : decode cX7_read 1 = .ok (.iload_n 1, 1) := by decide +kernel
theorem dX7_read_2 : decode cX7_read 2 = .ok (.invokestatic 58, 3) := by decide +kernel
theorem dX7_read_5 : decode cX7_read 5 = .ok (.ifCond .ne 5, 3) := by decide +kernel
theorem dX7_read_8 : decode cX7_read 8 = .ok (.iconst (-1), 1) := by decide +kernel
theorem dX7_read_9 : decode cX7_read 9 = .ok (.ireturn, 1) := by decide +kernel
theorem dX7_read_10 : decode cX7_read 10 = .ok (.iload_n 2, 1) := by decide +kernel
theorem dX7_read_11 : decode cX7_read 11 = .ok (.iconst 0, 1) := by decide +kernel
theorem dX7_read_12 : decode cX7_read 12 = .ok (.iconst 1, 1) := by decide +kernel
theorem dX7_read_13 : decode cX7_read 13 = .ok (.invokestatic 62, 3) := by decide +kernel
theorem dX7_read_16 : decode cX7_read 16 = .ok (.ifCond .ne 6, 3) := by decide +kernel
theorem dX7_read_19 : decode cX7_read 19 = .ok (.bipush (-2), 2) := by decide +kernel
theorem dX7_read_21 : decode cX7_read 21 = .ok (.ireturn, 1) := by decide +kernel
theorem dX7_read_22 : decode cX7_read 22 = .ok (.aload_n 0, 1) := by decide +kernel
theorem dX7_read_23 : decode cX7_read 23 = .ok (.iload_n 1, 1) := by decide +kernel
theorem dX7_read_24 : decode cX7_read 24 = .ok (.invokevirtual 137, 3) := by decide +kernel
theorem dX7_read_27 : decode cX7_read 27 = .ok (.ifCond .ne 6, 3) := by decide +kernel
theorem dX7_read_30 : decode cX7_read 30 = .ok (.bipush (-3), 2) := by decide +kernel
theorem dX7_read_32 : decode cX7_read 32 = .ok (.ireturn, 1) := by decide +kernel
theorem dX7_read_33 : decode cX7_read 33 = .ok (.aload_n 0, 1) := by decide +kernel
theorem dX7_read_34 : decode cX7_read 34 = .ok (.getfield 11, 3) := by decide +kernel
theorem dX7_read_37 : decode cX7_read 37 = .ok (.iconst 2, 1) := by decide +kernel
theorem dX7_read_38 : decode cX7_read 38 = .ok (.iload_n 1, 1) := by decide +kernel
theorem dX7_read_39 : decode cX7_read 39 = .ok (.imul, 1) := by decide +kernel
theorem dX7_read_40 : decode cX7_read 40 = .ok (.iconst 1, 1) := by decide +kernel
theorem dX7_read_41 : decode cX7_read 41 = .ok (.iadd, 1) := by decide +kernel
theorem dX7_read_42 : decode cX7_read 42 = .ok (.aaload, 1) := by decide +kernel
theorem dX7_read_43 : decode cX7_read 43 = .ok (.getfield 77, 3) := by decide +kernel
theorem dX7_read_46 : decode cX7_read 46 = .ok (.istore_n 3, 1) := by decide +kernel
theorem dX7_read_47 : decode cX7_read 47 = .ok (.iload_n 2, 1) := by decide +kernel
theorem dX7_read_48 : decode cX7_read 48 = .ok (.iconst 1, 1) := by decide +kernel
theorem dX7_read_49 : decode cX7_read 49 = .ok (.if_icmp .ne 14, 3) := by decide +kernel
theorem dX7_read_52 : decode cX7_read 52 = .ok (.aload_n 0, 1) := by decide +kernel
theorem dX7_read_53 : decode cX7_read 53 = .ok (.getfield 35, 3) := by decide +kernel
theorem dX7_read_56 : decode cX7_read 56 = .ok (.iload_n 1, 1) := by decide +kernel
theorem dX7_read_57 : decode cX7_read 57 = .ok (.aaload, 1) := by decide +kernel
theorem dX7_read_58 : decode cX7_read 58 = .ok (.iload_n 3, 1) := by decide +kernel
theorem dX7_read_59 : decode cX7_read 59 = .ok (.invokevirtual 140, 3) := by decide +kernel
theorem dX7_read_62 : decode cX7_read 62 = .ok (.ireturn, 1) := by decide +kernel
theorem dX7_read_63 : decode cX7_read 63 = .ok (.aload_n 0, 1) := by decide +kernel
theorem dX7_read_64 : decode cX7_read 64 = .ok (.getfield 35, 3) := by decide +kernel
theorem dX7_read_67 : decode cX7_read 67 = .ok (.iload_n 1, 1) := by decide +kernel
theorem dX7_read_68 : decode cX7_read 68 = .ok (.aaload, 1) := by decide +kernel
theorem dX7_read_69 : decode cX7_read 69 = .ok (.iload_n 3, 1) := by decide +kernel
theorem dX7_read_70 : decode cX7_read 70 = .ok (.putfield 134, 3) := by decide +kernel
theorem dX7_read_73 : decode cX7_read 73 = .ok (.aload_n 0, 1) := by decide +kernel
theorem dX7_read_74 : decode cX7_read 74 = .ok (.getfield 11, 3) := by decide +kernel
theorem dX7_read_77 : decode cX7_read 77 = .ok (.iconst 2, 1) := by decide +kernel
theorem dX7_read_78 : decode cX7_read 78 = .ok (.iload_n 1, 1) := by decide +kernel
theorem dX7_read_79 : decode cX7_read 79 = .ok (.imul, 1) := by decide +kernel
theorem dX7_read_80 : decode cX7_read 80 = .ok (.aaload, 1) := by decide +kernel
theorem dX7_read_81 : decode cX7_read 81 = .ok (.getfield 77, 3) := by decide +kernel
theorem dX7_read_84 : decode cX7_read 84 = .ok (.ireturn, 1) := by decide +kernel
set_option maxRecDepth 20000 in
theorem ggX7_wide_X7_isOneOf : GoodIn wsX7_wide wsX7_isOneOf := goodIn_r _ [7] (by decide +kernel) (by decide +kernel)
set_option maxRecDepth 20000 in
theorem gX7_wide_X7_isOneOf : GoodIn wsX7_wide (va_wsS RX7 58 yX7_isOneOf wsX7_isOneOf) := goodIn_app (goodIn_of _ (by decide +kernel)) ggX7_wide_X7_isOneOf
set_option maxRecDepth 20000 in
theorem ggX7_wide_X7_isWhole : GoodIn wsX7_wide wsX7_isWhole := goodIn_r _ [11, 1, 12, 13, 14, 15, 16, 17, 18, 19, 20, 21, 22, 23, 24, 25, 26, 27, 28, 29, 30, 31, 32, 33, 34] (by decide +kernel) (by decide +kernel)
set_option maxRecDepth 20000 in
theorem gX7_wide_X7_isWhole : GoodIn wsX7_wide (wsV RX7 137 RX7 yX7_isWhole wsX7_isWhole) := goodIn_app (goodIn_of _ (by decide +kernel)) ggX7_wide_X7_isWhole
theorem dX7_wide_0 : decode cX7_wide 0 = .ok (.iconst 2, 1) := by decide +kernel
theorem dX7_wide_1 : decode cX7_wide 1 = .ok (.iload_n 1, 1) := by decide +kernel
theorem dX7_wide_2 : decode cX7_wide 2 = .ok (.invokestatic 58, 3) := by decide +kernel
theorem dX7_wide_5 : decode cX7_wide 5 = .ok (.ifCond .ne 5, 3) := by decide +kernel
theorem dX7_wide_8 : decode cX7_wide 8 = .ok (.iconst (-1), 1) := by decide +kernel
theorem dX7_wide_9 : decode cX7_wide 9 = .ok (.ireturn, 1) := by decide +kernel
theorem dX7_wide_10 : decode cX7_wide 10 = .ok (.aload_n 0, 1) := by decide +kernel
theorem dX7_wide_11 : decode cX7_wide 11 = .ok (.iload_n 1, 1) := by decide +kernel
theorem dX7_wide_12 : decode cX7_wide 12 = .ok (.invokevirtual 137, 3) := by decide +kernel
theorem dX7_wide_15 : decode cX7_wide 15 = .ok (.ifCond .ne 6, 3) := by decide +kernel
theorem dX7_wide_18 : decode cX7_wide 18 = .ok (.bipush (-3), 2) := by decide +kernel
theorem dX7_wide_20 : decode cX7_wide 20 = .ok (.ireturn, 1) := by decide +kernel
theorem dX7_wide_21 : decode cX7_wide 21 = .ok (.aload_n 0, 1) := by decide +kernel
theorem dX7_wide_22 : decode cX7_wide 22 = .ok (.getfield 11, 3) := by decide +kernel
theorem dX7_wide_25 : decode cX7_wide 25 = .ok (.iconst 2, 1) := by decide +kernel
theorem dX7_wide_26 : decode cX7_wide 26 = .ok (.iload_n 1, 1) := by decide +kernel
theorem dX7_wide_27 : decode cX7_wide 27 = .ok (.imul, 1) := by decide +kernel
theorem dX7_wide_28 : decode cX7_wide 28 = .ok (.aaload, 1) := by decide +kernel
theorem dX7_wide_29 : decode cX7_wide 29 = .ok (.astore_n 2, 1) := by decide +kernel
theorem dX7_wide_30 : decode cX7_wide 30 = .ok (.aload_n 0, 1) := by decide +kernel
theorem dX7_wide_31 : decode cX7_wide 31 = .ok (.getfield 11, 3) := by decide +kernel
theorem dX7_wide_34 : decode cX7_wide 34 = .ok (.iconst 2, 1) := by decide +kernel
theorem dX7_wide_35 : decode cX7_wide 35 = .ok (.iload_n 1, 1) := by decide +kernel
theorem dX7_wide_36 : decode cX7_wide 36 = .ok (.imul, 1) := by decide +kernel
theorem dX7_wide_37 : decode cX7_wide 37 = .ok (.iconst 1, 1) := by decide +kernel
theorem dX7_wide_38 : decode cX7_wide 38 = .ok (.iadd, 1) := by decide +kernel
theorem dX7_wide_39 : decode cX7_wide 39 = .ok (.aaload, 1) := by decide +kernel
theorem dX7_wide_40 : decode cX7_wide 40 = .ok (.astore_n 3, 1) := by decide +kernel
theorem dX7_wide_41 : decode cX7_wide 41 = .ok (.aload_n 3, 1) := by decide +kernel
theorem dX7_wide_42 : decode cX7_wide 42 = .ok (.getfield 77, 3) := by decide +kernel
theorem dX7_wide_45 : decode cX7_wide 45 = .ok (.aload_n 2, 1) := by decide +kernel
theorem dX7_wide_46 : decode cX7_wide 46 = .ok (.getfield 74, 3) := by decide +kernel
theorem dX7_wide_49 : decode cX7_wide 49 = .ok (.iconst 1, 1) := by decide +kernel
theorem dX7_wide_50 : decode cX7_wide 50 = .ok (.iadd, 1) := by decide +kernel
theorem dX7_wide_51 : decode cX7_wide 51 = .ok (.imul, 1) := by decide +kernel
theorem dX7_wide_52 : decode cX7_wide 52 = .ok (.aload_n 2, 1) := by decide +kernel
theorem dX7_wide_53 : decode cX7_wide 53 = .ok (.getfield 77, 3) := by decide +kernel
theorem dX7_wide_56 : decode cX7_wide 56 = .ok (.iadd, 1) := by decide +kernel
theorem dX7_wide_57 : decode cX7_wide 57 = .ok (.ireturn, 1) := by decide +kernel
set_option maxRecDepth 20000 in
theorem ggX7_slow_X7_isOneOf : GoodIn wsX7_slow wsX7_isOneOf := goodIn_r _ [5] (by decide +kernel) (by decide +kernel)
set_option maxRecDepth 20000 in
theorem gX7_slow_X7_isOneOf : GoodIn wsX7_slow (va_wsS RX7 58 yX7_isOneOf wsX7_isOneOf) := goodIn_app (goodIn_of _ (by decide +kernel)) ggX7_slow_X7_isOneOf
set_option maxRecDepth 20000 in
theorem ggX7_slow_X7_within : GoodIn wsX7_slow wsX7_within := goodIn_r _ [8] (by decide +kernel) (by decide +kernel)
set_option maxRecDepth 20000 in
theorem gX7_slow_X7_within : GoodIn wsX7_slow (va_wsS RX7 62 yX7_within wsX7_within) := goodIn_app (goodIn_of _ (by decide +kernel)) ggX7_slow_X7_within
set_option maxRecDepth 20000 in
theorem ggX7_slow_X6_setUp : GoodIn wsX7_slow wsX6_setUp := goodIn_r _ [13, 14, 15, 16, 17, 18, 28, 29, 30, 31, 32] (by decide +kernel) (by decide +kernel)
set_option maxRecDepth 20000 in
theorem gX7_slow_X6_setUp : GoodIn wsX7_slow (wsV RX7 143 RX6 yX6_setUp wsX6_setUp) := goodIn_app (goodIn_of _ (by decide +kernel)) ggX7_slow_X6_setUp
theorem dX7_slow_0 : decode cX7_slow 0 = .ok (.iconst 4, 1) := by decide +kernel
theorem dX7_slow_1 : decode cX7_slow 1 = .ok (.iload_n 2, 1) := by decide +kernel
theorem dX7_slow_2 : decode cX7_slow 2 = .ok (.invokestatic 58, 3) := by decide +kernel
theorem dX7_slow_5 : decode cX7_slow 5 = .ok (.ifCond .ne 5, 3) := by decide +kernel
theorem dX7_slow_8 : decode cX7_slow 8 = .ok (.iconst (-1), 1) := by decide +kernel
theorem dX7_slow_9 : decode cX7_slow 9 = .ok (.ireturn, 1) := by decide +kernel
theorem dX7_slow_10 : decode cX7_slow 10 = .ok (.iload_n 1, 1) := by decide +kernel
theorem dX7_slow_11 : decode cX7_slow 11 = .ok (.iconst 2, 1) := by decide +kernel
theorem dX7_slow_12 : decode cX7_slow 12 = .ok (.bipush 16, 2) := by decide +kernel
theorem dX7_slow_14 : decode cX7_slow 14 = .ok (.invokestatic 62, 3) := by decide +kernel
theorem dX7_slow_17 : decode cX7_slow 17 = .ok (.ifCond .eq 12, 3) := by decide +kernel
theorem dX7_slow_20 : decode cX7_slow 20 = .ok (.iload_n 3, 1) := by decide +kernel
theorem dX7_slow_21 : decode cX7_slow 21 = .ok (.iconst 0, 1) := by decide +kernel
theorem dX7_slow_22 : decode cX7_slow 22 = .ok (.iconst 1, 1) := by decide +kernel
theorem dX7_slow_23 : decode cX7_slow 23 = .ok (.invokestatic 62, 3) := by decide +kernel
theorem dX7_slow_26 : decode cX7_slow 26 = .ok (.ifCond .ne 6, 3) := by decide +kernel
theorem dX7_slow_29 : decode cX7_slow 29 = .ok (.bipush (-2), 2) := by decide +kernel
theorem dX7_slow_31 : decode cX7_slow 31 = .ok (.ireturn, 1) := by decide +kernel
theorem dX7_slow_32 : decode cX7_slow 32 = .ok (.aload_n 0, 1) := by decide +kernel
theorem dX7_slow_33 : decode cX7_slow 33 = .ok (.getfield 49, 3) := by decide +kernel
theorem dX7_slow_36 : decode cX7_slow 36 = .ok (.iload_n 1, 1) := by decide +kernel
theorem dX7_slow_37 : decode cX7_slow 37 = .ok (.iload_n 2, 1) := by decide +kernel
theorem dX7_slow_38 : decode cX7_slow 38 = .ok (.iload_n 3, 1) := by decide +kernel
theorem dX7_slow_39 : decode cX7_slow 39 = .ok (.invokevirtual 143, 3) := by decide +kernel
theorem dX7_slow_42 : decode cX7_slow 42 = .ok (.iconst 1, 1) := by decide +kernel
theorem dX7_slow_43 : decode cX7_slow 43 = .ok (.ireturn, 1) := by decide +kernel
set_option maxRecDepth 20000 in
theorem ggX7_crossed_X6_tell : GoodIn wsX7_crossed wsX6_tell := goodIn_r _ [6, 7, 8, 9, 10, 11, 21, 22, 23, 24, 25] (by decide +kernel) (by decide +kernel)
set_option maxRecDepth 20000 in
theorem gX7_crossed_X6_tell : GoodIn wsX7_crossed (wsV RX7 144 RX6 yX6_tell wsX6_tell) := goodIn_app (goodIn_of _ (by decide +kernel)) ggX7_crossed_X6_tell
theorem dX7_crossed_0 : decode cX7_crossed 0 = .ok (.aload_n 0, 1) := by decide +kernel
theorem dX7_crossed_1 : decode cX7_crossed 1 = .ok (.getfield 49, 3) := by decide +kernel
theorem dX7_crossed_4 : decode cX7_crossed 4 = .ok (.iload_n 1, 1) := by decide +kernel
theorem dX7_crossed_5 : decode cX7_crossed 5 = .ok (.invokevirtual 144, 3) := by decide +kernel
theorem dX7_crossed_8 : decode cX7_crossed 8 = .ok (.ireturn, 1) := by decide +kernel
set_option maxRecDepth 20000 in
theorem ggX7_many_X7_outputsOn : GoodIn wsX7_many wsX7_outputsOn := goodIn_r _ [9, 10, 2, 11, 12, 13, 14, 15, 16, 17, 18, 19, 20, 21, 22, 23, 24, 25, 26, 39, 40, 41, 42, 43, 44, 45, 46, 47, 54, 55, 56, 57, 58, 59, 60, 61] (by decide +kernel) (by decide +kernel)
set_option maxRecDepth 20000 in
theorem gX7_many_X7_outputsOn : GoodIn wsX7_many (wsV RX7 145 RX7 yX7_outputsOn wsX7_outputsOn) := goodIn_app (goodIn_of _ (by decide +kernel)) ggX7_many_X7_outputsOn
set_option maxRecDepth 20000 in
theorem ggX7_many_X7_catchersReady : GoodIn wsX7_many wsX7_catchersReady := goodIn_r _ [30, 31, 32, 39, 40, 41, 42, 43, 44, 45, 46, 47, 62, 63, 64, 65, 66, 67, 68] (by decide +kernel) (by decide +kernel)
set_option maxRecDepth 20000 in
theorem gX7_many_X7_catchersReady : GoodIn wsX7_many (wsV RX7 151 RX7 yX7_catchersReady wsX7_catchersReady) := goodIn_app (goodIn_of _ (by decide +kernel)) ggX7_many_X7_catchersReady
set_option maxRecDepth 20000 in
theorem ggX7_many_X7_oversOfAll : GoodIn wsX7_many wsX7_oversOfAll := goodIn_r _ [36, 37, 38, 39, 40, 41, 42, 43, 44, 45, 46, 47, 69, 70, 71, 72, 73, 74, 75, 76, 77, 78, 79] (by decide +kernel) (by decide +kernel)
set_option maxRecDepth 20000 in
theorem gX7_many_X7_oversOfAll : GoodIn wsX7_many (wsV RX7 154 RX7 yX7_oversOfAll wsX7_oversOfAll) := goodIn_app (goodIn_of _ (by decide +kernel)) ggX7_many_X7_oversOfAll
theorem dX7_many_0 : decode cX7_many 0 = .ok (.iload_n 1, 1) := by decide +kernel
theorem dX7_many_1 : decode cX7_many 1 = .ok (.tableswitch 80 0 5 #[39, 44, 57, 62, 70, 75], 39) := by decide +kernel
theorem dX7_many_40 : decode cX7_many 40 = .ok (.aload_n 0, 1) := by decide +kernel
theorem dX7_many_41 : decode cX7_many 41 = .ok (.getfield 103, 3) := by decide +kernel
theorem dX7_many_44 : decode cX7_many 44 = .ok (.ireturn, 1) := by decide +kernel
theorem dX7_many_45 : decode cX7_many 45 = .ok (.aload_n 0, 1) := by decide +kernel
theorem dX7_many_46 : decode cX7_many 46 = .ok (.getfield 117, 3) := by decide +kernel
theorem dX7_many_49 : decode cX7_many 49 = .ok (.ifCond .eq 7, 3) := by decide +kernel
theorem dX7_many_52 : decode cX7_many 52 = .ok (.iconst 1, 1) := by decide +kernel
theorem dX7_many_53 : decode cX7_many 53 = .ok (.goto 4, 3) := by decide +kernel
theorem dX7_many_56 : decode cX7_many 56 = .ok (.iconst 0, 1) := by decide +kernel
theorem dX7_many_57 : decode cX7_many 57 = .ok (.ireturn, 1) := by decide +kernel
theorem dX7_many_58 : decode cX7_many 58 = .ok (.aload_n 0, 1) := by decide +kernel
theorem dX7_many_59 : decode cX7_many 59 = .ok (.invokevirtual 145, 3) := by decide +kernel
theorem dX7_many_62 : decode cX7_many 62 = .ok (.ireturn, 1) := by decide +kernel
theorem dX7_many_63 : decode cX7_many 63 = .ok (.aload_n 0, 1) := by decide +kernel
theorem dX7_many_64 : decode cX7_many 64 = .ok (.getfield 42, 3) := by decide +kernel
theorem dX7_many_67 : decode cX7_many 67 = .ok (.getfield 148, 3) := by decide +kernel
theorem dX7_many_70 : decode cX7_many 70 = .ok (.ireturn, 1) := by decide +kernel
theorem dX7_many_71 : decode cX7_many 71 = .ok (.aload_n 0, 1) := by decide +kernel
theorem dX7_many_72 : decode cX7_many 72 = .ok (.invokevirtual 151, 3) := by decide +kernel
theorem dX7_many_75 : decode cX7_many 75 = .ok (.ireturn, 1) := by decide +kernel
theorem dX7_many_76 : decode cX7_many 76 = .ok (.aload_n 0, 1) := by decide +kernel
theorem dX7_many_77 : decode cX7_many 77 = .ok (.invokevirtual 154, 3) := by decide +kernel
theorem dX7_many_80 : decode cX7_many 80 = .ok (.ireturn, 1) := by decide +kernel
theorem dX7_many_81 : decode cX7_many 81 = .ok (.bipush (-2), 2) := by decide +kernel
theorem dX7_many_83 : decode cX7_many 83 = .ok (.ireturn, 1) := by decide +kernel
set_option maxRecDepth 20000 in
theorem ggX7_runTick_X3_look : GoodIn wsX7_runTick wsX3_look := goodIn_r _ [17, 18, 19, 20, 21, 22, 167, 168, 169, 170, 171] (by decide +kernel) (by decide +kernel)
set_option maxRecDepth 20000 in
theorem gX7_runTick_X3_look : GoodIn wsX7_runTick (wsV RX7 160 RX3 yX3_look wsX3_look) := goodIn_app (goodIn_of _ (by decide +kernel)) ggX7_runTick_X3_look
set_option maxRecDepth 20000 in
theorem ggX7_runTick_X7_hasPulse : GoodIn wsX7_runTick wsX7_hasPulse := goodIn_r _ [27, 2, 28, 29, 6, 8, 142, 143, 144, 145, 146, 147, 148, 149, 150, 156, 157, 158, 159, 160, 161, 162, 163, 164, 165, 166, 167, 168, 169, 170, 171] (by decide +kernel) (by decide +kernel)
set_option maxRecDepth 20000 in
theorem gX7_runTick_X7_hasPulse : GoodIn wsX7_runTick (wsV RX7 163 RX7 yX7_hasPulse wsX7_hasPulse) := goodIn_app (goodIn_of _ (by decide +kernel)) ggX7_runTick_X7_hasPulse
set_option maxRecDepth 20000 in
theorem ggX7_runTick_X2_pass : GoodIn wsX7_runTick wsX2_pass := goodIn_r _ [34, 35, 36, 37, 38, 39, 40, 41, 33, 42, 43, 44, 45, 46, 47, 48, 49, 50, 51, 52, 53, 54, 55, 56, 57, 58, 59, 60, 61, 62, 63, 64, 65, 66, 67, 68, 156, 157, 158, 159, 160, 161, 162, 163, 164, 165, 166] (by decide +kernel) (by decide +kernel)
set_option maxRecDepth 20000 in
theorem gX7_runTick_X2_pass : GoodIn wsX7_runTick (wsV RX7 166 RX2 yX2_pass wsX2_pass) := goodIn_app (goodIn_of _ (by decide +kernel)) ggX7_runTick_X2_pass
set_option maxRecDepth 20000 in
theorem ggX7_runTick_X0_notice : GoodIn wsX7_runTick wsX0_notice := goodIn_r _ [73, 74, 75, 76, 77, 78, 79, 172, 173, 174, 175, 176, 177, 178] (by decide +kernel) (by decide +kernel)
set_option maxRecDepth 20000 in
theorem gX7_runTick_X0_notice : GoodIn wsX7_runTick (wsV RX7 174 RX0 yX0_notice wsX0_notice) := goodIn_app (goodIn_of _ (by decide +kernel)) ggX7_runTick_X0_notice
set_option maxRecDepth 20000 in
theorem ggX7_runTick_X1_follow : GoodIn wsX7_runTick wsX1_follow := goodIn_r _ [84, 85, 86, 87, 88, 89, 90, 91, 92, 93, 83, 94, 95, 96, 97, 98, 179, 180, 181, 182, 183, 184, 185, 186, 156, 157, 158, 159, 160, 161, 162, 163, 164, 165, 166] (by decide +kernel) (by decide +kernel)
set_option maxRecDepth 20000 in
theorem gX7_runTick_X1_follow : GoodIn wsX7_runTick (wsV RX7 179 RX1 yX1_follow wsX1_follow) := goodIn_app (goodIn_of _ (by decide +kernel)) ggX7_runTick_X1_follow
set_option maxRecDepth 20000 in
theorem ggX7_runTick_X6_sample : GoodIn wsX7_runTick wsX6_sample := goodIn_r _ [103, 104, 105, 106, 107, 108, 102, 109, 110, 111, 112, 151, 152, 153, 154, 155] (by decide +kernel) (by decide +kernel)
set_option maxRecDepth 20000 in
theorem gX7_runTick_X6_sample : GoodIn wsX7_runTick (wsV RX7 186 RX6 yX6_sample wsX6_sample) := goodIn_app (goodIn_of _ (by decide +kernel)) ggX7_runTick_X6_sample
set_option maxRecDepth 20000 in
theorem ggX7_runTick_X7_workOutPins : GoodIn wsX7_runTick wsX7_workOutPins := goodIn_r _ [116, 117, 10, 118, 1, 119, 120, 121, 83, 122, 123, 124, 125, 126, 127, 128, 98, 86, 129, 85, 130, 131, 132, 133, 134, 135, 136, 137, 138, 139, 140, 141, 88, 89, 90, 142, 143, 144, 145, 146, 147, 148, 149, 150, 179, 180, 181, 182, 183, 184, 185, 186, 187, 188, 189, 190, 191, 192] (by decide +kernel) (by decide +kernel)
set_option maxRecDepth 20000 in
theorem gX7_runTick_X7_workOutPins : GoodIn wsX7_runTick (wsV RX7 107 RX7 yX7_workOutPins wsX7_workOutPins) := goodIn_app (goodIn_of _ (by decide +kernel)) ggX7_runTick_X7_workOutPins
theorem dX7_runTick_0 : decode cX7_runTick 0 = .ok (.aload_n 0, 1) := by decide +kernel
theorem dX7_runTick_1 : decode cX7_runTick 1 = .ok (.dup, 1) := by decide +kernel
theorem dX7_runTick_2 : decode cX7_runTick 2 = .ok (.getfield 103, 3) := by decide +kernel
theorem dX7_runTick_5 : decode cX7_runTick 5 = .ok (.iconst 1, 1) := by decide +kernel
theorem dX7_runTick_6 : decode cX7_runTick 6 = .ok (.iadd, 1) := by decide +kernel
theorem dX7_runTick_7 : decode cX7_runTick 7 = .ok (.putfield 103, 3) := by decide +kernel
theorem dX7_runTick_10 : decode cX7_runTick 10 = .ok (.aload_n 0, 1) := by decide +kernel
theorem dX7_runTick_11 : decode cX7_runTick 11 = .ok (.getfield 11, 3) := by decide +kernel
theorem dX7_runTick_14 : decode cX7_runTick 14 = .ok (.aload_n 0, 1) := by decide +kernel
theorem dX7_runTick_15 : decode cX7_runTick 15 = .ok (.getfield 49, 3) := by decide +kernel
theorem dX7_runTick_18 : decode cX7_runTick 18 = .ok (.getfield 157, 3) := by decide +kernel
theorem dX7_runTick_21 : decode cX7_runTick 21 = .ok (.aaload, 1) := by decide +kernel
theorem dX7_runTick_22 : decode cX7_runTick 22 = .ok (.getfield 77, 3) := by decide +kernel
theorem dX7_runTick_25 : decode cX7_runTick 25 = .ok (.istore_n 1, 1) := by decide +kernel
theorem dX7_runTick_26 : decode cX7_runTick 26 = .ok (.iconst 0, 1) := by decide +kernel
theorem dX7_runTick_27 : decode cX7_runTick 27 = .ok (.istore_n 2, 1) := by decide +kernel
theorem dX7_runTick_28 : decode cX7_runTick 28 = .ok (.iload_n 2, 1) := by decide +kernel
theorem dX7_runTick_29 : decode cX7_runTick 29 = .ok (.iconst 4, 1) := by decide +kernel
theorem dX7_runTick_30 : decode cX7_runTick 30 = .ok (.if_icmp .ge 18, 3) := by decide +kernel
theorem dX7_runTick_33 : decode cX7_runTick 33 = .ok (.aload_n 0, 1) := by decide +kernel
theorem dX7_runTick_34 : decode cX7_runTick 34 = .ok (.getfield 17, 3) := by decide +kernel
theorem dX7_runTick_37 : decode cX7_runTick 37 = .ok (.iload_n 2, 1) := by decide +kernel
theorem dX7_runTick_38 : decode cX7_runTick 38 = .ok (.aaload, 1) := by decide +kernel
theorem dX7_runTick_39 : decode cX7_runTick 39 = .ok (.invokevirtual 160, 3) := by decide +kernel
theorem dX7_runTick_42 : decode cX7_runTick 42 = .ok (.iinc 2 1, 3) := by decide +kernel
theorem dX7_runTick_45 : decode cX7_runTick 45 = .ok (.goto (-17), 3) := by decide +kernel
theorem dX7_runTick_48 : decode cX7_runTick 48 = .ok (.iconst 0, 1) := by decide +kernel
theorem dX7_runTick_49 : decode cX7_runTick 49 = .ok (.istore_n 2, 1) := by decide +kernel
theorem dX7_runTick_50 : decode cX7_runTick 50 = .ok (.iload_n 2, 1) := by decide +kernel
theorem dX7_runTick_51 : decode cX7_runTick 51 = .ok (.iconst 4, 1) := by decide +kernel
theorem dX7_runTick_52 : decode cX7_runTick 52 = .ok (.if_icmp .ge 23, 3) := by decide +kernel
theorem dX7_runTick_55 : decode cX7_runTick 55 = .ok (.aload_n 0, 1) := by decide +kernel
theorem dX7_runTick_56 : decode cX7_runTick 56 = .ok (.getfield 11, 3) := by decide +kernel
theorem dX7_runTick_59 : decode cX7_runTick 59 = .ok (.iload_n 2, 1) := by decide +kernel
theorem dX7_runTick_60 : decode cX7_runTick 60 = .ok (.aaload, 1) := by decide +kernel
theorem dX7_runTick_61 : decode cX7_runTick 61 = .ok (.aload_n 0, 1) := by decide +kernel
theorem dX7_runTick_62 : decode cX7_runTick 62 = .ok (.iload_n 2, 1) := by decide +kernel
theorem dX7_runTick_63 : decode cX7_runTick 63 = .ok (.invokevirtual 163, 3) := by decide +kernel
theorem dX7_runTick_66 : decode cX7_runTick 66 = .ok (.invokevirtual 166, 3) := by decide +kernel
theorem dX7_runTick_69 : decode cX7_runTick 69 = .ok (.iinc 2 1, 3) := by decide +kernel
theorem dX7_runTick_72 : decode cX7_runTick 72 = .ok (.goto (-22), 3) := by decide +kernel
theorem dX7_runTick_75 : decode cX7_runTick 75 = .ok (.iconst 0, 1) := by decide +kernel
theorem dX7_runTick_76 : decode cX7_runTick 76 = .ok (.istore_n 2, 1) := by decide +kernel
theorem dX7_runTick_77 : decode cX7_runTick 77 = .ok (.iload_n 2, 1) := by decide +kernel
theorem dX7_runTick_78 : decode cX7_runTick 78 = .ok (.iconst 4, 1) := by decide +kernel
theorem dX7_runTick_79 : decode cX7_runTick 79 = .ok (.if_icmp .ge 44, 3) := by decide +kernel
theorem dX7_runTick_82 : decode cX7_runTick 82 = .ok (.aload_n 0, 1) := by decide +kernel
theorem dX7_runTick_83 : decode cX7_runTick 83 = .ok (.getfield 23, 3) := by decide +kernel
theorem dX7_runTick_86 : decode cX7_runTick 86 = .ok (.iload_n 2, 1) := by decide +kernel
theorem dX7_runTick_87 : decode cX7_runTick 87 = .ok (.aaload, 1) := by decide +kernel
theorem dX7_runTick_88 : decode cX7_runTick 88 = .ok (.aload_n 0, 1) := by decide +kernel
theorem dX7_runTick_89 : decode cX7_runTick 89 = .ok (.getfield 17, 3) := by decide +kernel
theorem dX7_runTick_92 : decode cX7_runTick 92 = .ok (.iload_n 2, 1) := by decide +kernel
theorem dX7_runTick_93 : decode cX7_runTick 93 = .ok (.aaload, 1) := by decide +kernel
theorem dX7_runTick_94 : decode cX7_runTick 94 = .ok (.getfield 170, 3) := by decide +kernel
theorem dX7_runTick_97 : decode cX7_runTick 97 = .ok (.aload_n 0, 1) := by decide +kernel
theorem dX7_runTick_98 : decode cX7_runTick 98 = .ok (.getfield 11, 3) := by decide +kernel
theorem dX7_runTick_101 : decode cX7_runTick 101 = .ok (.aload_n 0, 1) := by decide +kernel
theorem dX7_runTick_102 : decode cX7_runTick 102 = .ok (.getfield 23, 3) := by decide +kernel
theorem dX7_runTick_105 : decode cX7_runTick 105 = .ok (.iload_n 2, 1) := by decide +kernel
theorem dX7_runTick_106 : decode cX7_runTick 106 = .ok (.aaload, 1) := by decide +kernel
theorem dX7_runTick_107 : decode cX7_runTick 107 = .ok (.getfield 173, 3) := by decide +kernel
theorem dX7_runTick_110 : decode cX7_runTick 110 = .ok (.aaload, 1) := by decide +kernel
theorem dX7_runTick_111 : decode cX7_runTick 111 = .ok (.getfield 77, 3) := by decide +kernel
theorem dX7_runTick_114 : decode cX7_runTick 114 = .ok (.invokevirtual 174, 3) := by decide +kernel
theorem dX7_runTick_117 : decode cX7_runTick 117 = .ok (.iinc 2 1, 3) := by decide +kernel
theorem dX7_runTick_120 : decode cX7_runTick 120 = .ok (.goto (-43), 3) := by decide +kernel
theorem dX7_runTick_123 : decode cX7_runTick 123 = .ok (.iconst 0, 1) := by decide +kernel
theorem dX7_runTick_124 : decode cX7_runTick 124 = .ok (.istore_n 2, 1) := by decide +kernel
theorem dX7_runTick_125 : decode cX7_runTick 125 = .ok (.iload_n 2, 1) := by decide +kernel
theorem dX7_runTick_126 : decode cX7_runTick 126 = .ok (.iconst 4, 1) := by decide +kernel
theorem dX7_runTick_127 : decode cX7_runTick 127 = .ok (.if_icmp .ge 32, 3) := by decide +kernel
theorem dX7_runTick_130 : decode cX7_runTick 130 = .ok (.aload_n 0, 1) := by decide +kernel
theorem dX7_runTick_131 : decode cX7_runTick 131 = .ok (.getfield 29, 3) := by decide +kernel
theorem dX7_runTick_134 : decode cX7_runTick 134 = .ok (.iload_n 2, 1) := by decide +kernel
theorem dX7_runTick_135 : decode cX7_runTick 135 = .ok (.aaload, 1) := by decide +kernel
theorem dX7_runTick_136 : decode cX7_runTick 136 = .ok (.aload_n 0, 1) := by decide +kernel
theorem dX7_runTick_137 : decode cX7_runTick 137 = .ok (.getfield 11, 3) := by decide +kernel
theorem dX7_runTick_140 : decode cX7_runTick 140 = .ok (.aload_n 0, 1) := by decide +kernel
theorem dX7_runTick_141 : decode cX7_runTick 141 = .ok (.getfield 29, 3) := by decide +kernel
theorem dX7_runTick_144 : decode cX7_runTick 144 = .ok (.iload_n 2, 1) := by decide +kernel
theorem dX7_runTick_145 : decode cX7_runTick 145 = .ok (.aaload, 1) := by decide +kernel
theorem dX7_runTick_146 : decode cX7_runTick 146 = .ok (.getfield 178, 3) := by decide +kernel
theorem dX7_runTick_149 : decode cX7_runTick 149 = .ok (.aaload, 1) := by decide +kernel
theorem dX7_runTick_150 : decode cX7_runTick 150 = .ok (.invokevirtual 179, 3) := by decide +kernel
theorem dX7_runTick_153 : decode cX7_runTick 153 = .ok (.iinc 2 1, 3) := by decide +kernel
theorem dX7_runTick_156 : decode cX7_runTick 156 = .ok (.goto (-31), 3) := by decide +kernel
theorem dX7_runTick_159 : decode cX7_runTick 159 = .ok (.aload_n 0, 1) := by decide +kernel
theorem dX7_runTick_160 : decode cX7_runTick 160 = .ok (.getfield 103, 3) := by decide +kernel
theorem dX7_runTick_163 : decode cX7_runTick 163 = .ok (.aload_n 0, 1) := by decide +kernel
theorem dX7_runTick_164 : decode cX7_runTick 164 = .ok (.getfield 49, 3) := by decide +kernel
theorem dX7_runTick_167 : decode cX7_runTick 167 = .ok (.getfield 183, 3) := by decide +kernel
theorem dX7_runTick_170 : decode cX7_runTick 170 = .ok (.irem, 1) := by decide +kernel
theorem dX7_runTick_171 : decode cX7_runTick 171 = .ok (.ifCond .ne 26, 3) := by decide +kernel
theorem dX7_runTick_174 : decode cX7_runTick 174 = .ok (.aload_n 0, 1) := by decide +kernel
theorem dX7_runTick_175 : decode cX7_runTick 175 = .ok (.getfield 49, 3) := by decide +kernel
theorem dX7_runTick_178 : decode cX7_runTick 178 = .ok (.iload_n 1, 1) := by decide +kernel
theorem dX7_runTick_179 : decode cX7_runTick 179 = .ok (.aload_n 0, 1) := by decide +kernel
theorem dX7_runTick_180 : decode cX7_runTick 180 = .ok (.getfield 11, 3) := by decide +kernel
theorem dX7_runTick_183 : decode cX7_runTick 183 = .ok (.aload_n 0, 1) := by decide +kernel
theorem dX7_runTick_184 : decode cX7_runTick 184 = .ok (.getfield 49, 3) := by decide +kernel
theorem dX7_runTick_187 : decode cX7_runTick 187 = .ok (.getfield 157, 3) := by decide +kernel
theorem dX7_runTick_190 : decode cX7_runTick 190 = .ok (.aaload, 1) := by decide +kernel
theorem dX7_runTick_191 : decode cX7_runTick 191 = .ok (.getfield 77, 3) := by decide +kernel
theorem dX7_runTick_194 : decode cX7_runTick 194 = .ok (.invokevirtual 186, 3) := by decide +kernel
theorem dX7_runTick_197 : decode cX7_runTick 197 = .ok (.aload_n 0, 1) := by decide +kernel
theorem dX7_runTick_198 : decode cX7_runTick 198 = .ok (.invokevirtual 107, 3) := by decide +kernel
theorem dX7_runTick_201 : decode cX7_runTick 201 = .ok (.return_, 1) := by decide +kernel
theorem dX7_hasPulse_0 : decode cX7_hasPulse 0 = .ok (.aload_n 0, 1) := by decide +kernel
theorem dX7_hasPulse_1 : decode cX7_hasPulse 1 = .ok (.getfield 11, 3) := by decide +kernel
theorem dX7_hasPulse_4 : decode cX7_hasPulse 4 = .ok (.iload_n 1, 1) := by decide +kernel
theorem dX7_hasPulse_5 : decode cX7_hasPulse 5 = .ok (.aaload, 1) := by decide +kernel
theorem dX7_hasPulse_6 : decode cX7_hasPulse 6 = .ok (.getfield 70, 3) := by decide +kernel
theorem dX7_hasPulse_9 : decode cX7_hasPulse 9 = .ok (.tableswitch 72 1 3 #[27, 29, 53], 27) := by decide +kernel
theorem dX7_hasPulse_36 : decode cX7_hasPulse 36 = .ok (.iconst 1, 1) := by decide +kernel
theorem dX7_hasPulse_37 : decode cX7_hasPulse 37 = .ok (.ireturn, 1) := by decide +kernel
theorem dX7_hasPulse_38 : decode cX7_hasPulse 38 = .ok (.iload_n 1, 1) := by decide +kernel
theorem dX7_hasPulse_39 : decode cX7_hasPulse 39 = .ok (.ifCond .le 21, 3) := by decide +kernel
theorem dX7_hasPulse_42 : decode cX7_hasPulse 42 = .ok (.aload_n 0, 1) := by decide +kernel
theorem dX7_hasPulse_43 : decode cX7_hasPulse 43 = .ok (.getfield 11, 3) := by decide +kernel
theorem dX7_hasPulse_46 : decode cX7_hasPulse 46 = .ok (.iload_n 1, 1) := by decide +kernel
theorem dX7_hasPulse_47 : decode cX7_hasPulse 47 = .ok (.iconst 1, 1) := by decide +kernel
theorem dX7_hasPulse_48 : decode cX7_hasPulse 48 = .ok (.isub, 1) := by decide +kernel
theorem dX7_hasPulse_49 : decode cX7_hasPulse 49 = .ok (.aaload, 1) := by decide +kernel
theorem dX7_hasPulse_50 : decode cX7_hasPulse 50 = .ok (.getfield 189, 3) := by decide +kernel
theorem dX7_hasPulse_53 : decode cX7_hasPulse 53 = .ok (.ifCond .eq 7, 3) := by decide +kernel
theorem dX7_hasPulse_56 : decode cX7_hasPulse 56 = .ok (.iconst 1, 1) := by decide +kernel
theorem dX7_hasPulse_57 : decode cX7_hasPulse 57 = .ok (.goto 4, 3) := by decide +kernel
theorem dX7_hasPulse_60 : decode cX7_hasPulse 60 = .ok (.iconst 0, 1) := by decide +kernel
theorem dX7_hasPulse_61 : decode cX7_hasPulse 61 = .ok (.ireturn, 1) := by decide +kernel
theorem dX7_hasPulse_62 : decode cX7_hasPulse 62 = .ok (.aload_n 0, 1) := by decide +kernel
theorem dX7_hasPulse_63 : decode cX7_hasPulse 63 = .ok (.getfield 17, 3) := by decide +kernel
theorem dX7_hasPulse_66 : decode cX7_hasPulse 66 = .ok (.iload_n 1, 1) := by decide +kernel
theorem dX7_hasPulse_67 : decode cX7_hasPulse 67 = .ok (.aaload, 1) := by decide +kernel
theorem dX7_hasPulse_68 : decode cX7_hasPulse 68 = .ok (.getfield 170, 3) := by decide +kernel
theorem dX7_hasPulse_71 : decode cX7_hasPulse 71 = .ok (.iconst 1, 1) := by decide +kernel
theorem dX7_hasPulse_72 : decode cX7_hasPulse 72 = .ok (.if_icmp .ne 7, 3) := by decide +kernel
theorem dX7_hasPulse_75 : decode cX7_hasPulse 75 = .ok (.iconst 1, 1) := by decide +kernel
theorem dX7_hasPulse_76 : decode cX7_hasPulse 76 = .ok (.goto 4, 3) := by decide +kernel
theorem dX7_hasPulse_79 : decode cX7_hasPulse 79 = .ok (.iconst 0, 1) := by decide +kernel
theorem dX7_hasPulse_80 : decode cX7_hasPulse 80 = .ok (.ireturn, 1) := by decide +kernel
theorem dX7_hasPulse_81 : decode cX7_hasPulse 81 = .ok (.iconst 0, 1) := by decide +kernel
theorem dX7_hasPulse_82 : decode cX7_hasPulse 82 = .ok (.ireturn, 1) := by decide +kernel
set_option maxRecDepth 20000 in
theorem ggX7_workOutPins_X1_pinLevel : GoodIn wsX7_workOutPins wsX1_pinLevel := goodIn_r _ [9, 10, 11, 12, 13, 14, 8, 15, 16, 17, 18, 19, 44, 45, 46, 47, 48, 49, 50, 51] (by decide +kernel) (by decide +kernel)
set_option maxRecDepth 20000 in
theorem gX7_workOutPins_X1_pinLevel : GoodIn wsX7_workOutPins (wsV RX7 192 RX1 yX1_pinLevel wsX1_pinLevel) := goodIn_app (goodIn_of _ (by decide +kernel)) ggX7_workOutPins_X1_pinLevel
set_option maxRecDepth 20000 in
theorem ggX7_workOutPins_X5_drive : GoodIn wsX7_workOutPins wsX5_drive := goodIn_r _ [24, 25, 26, 27, 28, 29, 30, 31, 32, 33, 34, 52, 53, 54, 55, 56, 57] (by decide +kernel) (by decide +kernel)
set_option maxRecDepth 20000 in
theorem gX7_workOutPins_X5_drive : GoodIn wsX7_workOutPins (wsV RX7 195 RX5 yX5_drive wsX5_drive) := goodIn_app (goodIn_of _ (by decide +kernel)) ggX7_workOutPins_X5_drive
theorem dX7_workOutPins_0 : decode cX7_workOutPins 0 = .ok (.iconst 0, 1) := by decide +kernel
theorem dX7_workOutPins_1 : decode cX7_workOutPins 1 = .ok (.istore_n 1, 1) := by decide +kernel
theorem dX7_workOutPins_2 : decode cX7_workOutPins 2 = .ok (.iload_n 1, 1) := by decide +kernel
theorem dX7_workOutPins_3 : decode cX7_workOutPins 3 = .ok (.iconst 4, 1) := by decide +kernel
theorem dX7_workOutPins_4 : decode cX7_workOutPins 4 = .ok (.if_icmp .ge 52, 3) := by decide +kernel
theorem dX7_workOutPins_7 : decode cX7_workOutPins 7 = .ok (.iconst 0, 1) := by decide +kernel
theorem dX7_workOutPins_8 : decode cX7_workOutPins 8 = .ok (.istore_n 2, 1) := by decide +kernel
theorem dX7_workOutPins_9 : decode cX7_workOutPins 9 = .ok (.iload_n 2, 1) := by decide +kernel
theorem dX7_workOutPins_10 : decode cX7_workOutPins 10 = .ok (.iconst 2, 1) := by decide +kernel
theorem dX7_workOutPins_11 : decode cX7_workOutPins 11 = .ok (.if_icmp .ge 39, 3) := by decide +kernel
theorem dX7_workOutPins_14 : decode cX7_workOutPins 14 = .ok (.aload_n 0, 1) := by decide +kernel
theorem dX7_workOutPins_15 : decode cX7_workOutPins 15 = .ok (.getfield 42, 3) := by decide +kernel
theorem dX7_workOutPins_18 : decode cX7_workOutPins 18 = .ok (.iconst 2, 1) := by decide +kernel
theorem dX7_workOutPins_19 : decode cX7_workOutPins 19 = .ok (.iload_n 1, 1) := by decide +kernel
theorem dX7_workOutPins_20 : decode cX7_workOutPins 20 = .ok (.imul, 1) := by decide +kernel
theorem dX7_workOutPins_21 : decode cX7_workOutPins 21 = .ok (.iload_n 2, 1) := by decide +kernel
theorem dX7_workOutPins_22 : decode cX7_workOutPins 22 = .ok (.iadd, 1) := by decide +kernel
theorem dX7_workOutPins_23 : decode cX7_workOutPins 23 = .ok (.aload_n 0, 1) := by decide +kernel
theorem dX7_workOutPins_24 : decode cX7_workOutPins 24 = .ok (.getfield 29, 3) := by decide +kernel
theorem dX7_workOutPins_27 : decode cX7_workOutPins 27 = .ok (.iload_n 1, 1) := by decide +kernel
theorem dX7_workOutPins_28 : decode cX7_workOutPins 28 = .ok (.aaload, 1) := by decide +kernel
theorem dX7_workOutPins_29 : decode cX7_workOutPins 29 = .ok (.iload_n 2, 1) := by decide +kernel
theorem dX7_workOutPins_30 : decode cX7_workOutPins 30 = .ok (.aload_n 0, 1) := by decide +kernel
theorem dX7_workOutPins_31 : decode cX7_workOutPins 31 = .ok (.getfield 117, 3) := by decide +kernel
theorem dX7_workOutPins_34 : decode cX7_workOutPins 34 = .ok (.invokevirtual 192, 3) := by decide +kernel
theorem dX7_workOutPins_37 : decode cX7_workOutPins 37 = .ok (.aload_n 0, 1) := by decide +kernel
theorem dX7_workOutPins_38 : decode cX7_workOutPins 38 = .ok (.getfield 103, 3) := by decide +kernel
theorem dX7_workOutPins_41 : decode cX7_workOutPins 41 = .ok (.invokevirtual 195, 3) := by decide +kernel
theorem dX7_workOutPins_44 : decode cX7_workOutPins 44 = .ok (.iinc 2 1, 3) := by decide +kernel
theorem dX7_workOutPins_47 : decode cX7_workOutPins 47 = .ok (.goto (-38), 3) := by decide +kernel
theorem dX7_workOutPins_50 : decode cX7_workOutPins 50 = .ok (.iinc 1 1, 3) := by decide +kernel
theorem dX7_workOutPins_53 : decode cX7_workOutPins 53 = .ok (.goto (-51), 3) := by decide +kernel
theorem dX7_workOutPins_56 : decode cX7_workOutPins 56 = .ok (.return_, 1) := by decide +kernel
theorem dX7_isWhole_0 : decode cX7_isWhole 0 = .ok (.aload_n 0, 1) := by decide +kernel
theorem dX7_isWhole_1 : decode cX7_isWhole 1 = .ok (.getfield 11, 3) := by decide +kernel
theorem dX7_isWhole_4 : decode cX7_isWhole 4 = .ok (.iconst 2, 1) := by decide +kernel
theorem dX7_isWhole_5 : decode cX7_isWhole 5 = .ok (.iload_n 1, 1) := by decide +kernel
theorem dX7_isWhole_6 : decode cX7_isWhole 6 = .ok (.imul, 1) := by decide +kernel
theorem dX7_isWhole_7 : decode cX7_isWhole 7 = .ok (.aaload, 1) := by decide +kernel
theorem dX7_isWhole_8 : decode cX7_isWhole 8 = .ok (.astore_n 2, 1) := by decide +kernel
theorem dX7_isWhole_9 : decode cX7_isWhole 9 = .ok (.aload_n 0, 1) := by decide +kernel
theorem dX7_isWhole_10 : decode cX7_isWhole 10 = .ok (.getfield 11, 3) := by decide +kernel
theorem dX7_isWhole_13 : decode cX7_isWhole 13 = .ok (.iconst 2, 1) := by decide +kernel
theorem dX7_isWhole_14 : decode cX7_isWhole 14 = .ok (.iload_n 1, 1) := by decide +kernel
theorem dX7_isWhole_15 : decode cX7_isWhole 15 = .ok (.imul, 1) := by decide +kernel
theorem dX7_isWhole_16 : decode cX7_isWhole 16 = .ok (.iconst 1, 1) := by decide +kernel
theorem dX7_isWhole_17 : decode cX7_isWhole 17 = .ok (.iadd, 1) := by decide +kernel
theorem dX7_isWhole_18 : decode cX7_isWhole 18 = .ok (.aaload, 1) := by decide +kernel
theorem dX7_isWhole_19 : decode cX7_isWhole 19 = .ok (.astore_n 3, 1) := by decide +kernel
theorem dX7_isWhole_20 : decode cX7_isWhole 20 = .ok (.aload_n 3, 1) := by decide +kernel
theorem dX7_isWhole_21 : decode cX7_isWhole 21 = .ok (.getfield 70, 3) := by decide +kernel
theorem dX7_isWhole_24 : decode cX7_isWhole 24 = .ok (.iconst 2, 1) := by decide +kernel
theorem dX7_isWhole_25 : decode cX7_isWhole 25 = .ok (.if_icmp .ne 29, 3) := by decide +kernel
theorem dX7_isWhole_28 : decode cX7_isWhole 28 = .ok (.aload_n 3, 1) := by decide +kernel
theorem dX7_isWhole_29 : decode cX7_isWhole 29 = .ok (.getfield 198, 3) := by decide +kernel
theorem dX7_isWhole_32 : decode cX7_isWhole 32 = .ok (.iconst 1, 1) := by decide +kernel
theorem dX7_isWhole_33 : decode cX7_isWhole 33 = .ok (.if_icmp .ne 21, 3) := by decide +kernel
theorem dX7_isWhole_36 : decode cX7_isWhole 36 = .ok (.aload_n 3, 1) := by decide +kernel
theorem dX7_isWhole_37 : decode cX7_isWhole 37 = .ok (.getfield 201, 3) := by decide +kernel
theorem dX7_isWhole_40 : decode cX7_isWhole 40 = .ok (.ifCond .ne 14, 3) := by decide +kernel
theorem dX7_isWhole_43 : decode cX7_isWhole 43 = .ok (.aload_n 2, 1) := by decide +kernel
theorem dX7_isWhole_44 : decode cX7_isWhole 44 = .ok (.getfield 201, 3) := by decide +kernel
theorem dX7_isWhole_47 : decode cX7_isWhole 47 = .ok (.ifCond .ne 7, 3) := by decide +kernel
theorem dX7_isWhole_50 : decode cX7_isWhole 50 = .ok (.iconst 1, 1) := by decide +kernel
theorem dX7_isWhole_51 : decode cX7_isWhole 51 = .ok (.goto 4, 3) := by decide +kernel
theorem dX7_isWhole_54 : decode cX7_isWhole 54 = .ok (.iconst 0, 1) := by decide +kernel
theorem dX7_isWhole_55 : decode cX7_isWhole 55 = .ok (.ireturn, 1) := by decide +kernel
set_option maxRecDepth 20000 in
theorem ggX7_outputsOn_X1_outputsOn : GoodIn wsX7_outputsOn wsX1_outputsOn := goodIn_r _ [7, 8, 9, 10, 11, 28, 29, 30, 31, 32, 33, 34, 35] (by decide +kernel) (by decide +kernel)
set_option maxRecDepth 20000 in
theorem gX7_outputsOn_X1_outputsOn : GoodIn wsX7_outputsOn (wsV RX7 204 RX1 yX1_outputsOn wsX1_outputsOn) := goodIn_app (goodIn_of _ (by decide +kernel)) ggX7_outputsOn_X1_outputsOn
set_option maxRecDepth 20000 in
theorem ggX7_outputsOn_J6_bitCount_0f7a4 : GoodIn wsX7_outputsOn wsJ6_bitCount_0f7a4 := goodIn_r _ [15, 16, 17, 18] (by decide +kernel) (by decide +kernel)
set_option maxRecDepth 20000 in
theorem gX7_outputsOn_J6_bitCount_0f7a4 : GoodIn wsX7_outputsOn (va_wsS RX7 207 yJ6_bitCount_0f7a4 wsJ6_bitCount_0f7a4) := goodIn_app (goodIn_of _ (by decide +kernel)) ggX7_outputsOn_J6_bitCount_0f7a4
theorem dX7_outputsOn_0 : decode cX7_outputsOn 0 = .ok (.iconst 0, 1) := by decide +kernel
theorem dX7_outputsOn_1 : decode cX7_outputsOn 1 = .ok (.istore_n 1, 1) := by decide +kernel
theorem dX7_outputsOn_2 : decode cX7_outputsOn 2 = .ok (.iconst 0, 1) := by decide +kernel
theorem dX7_outputsOn_3 : decode cX7_outputsOn 3 = .ok (.istore_n 2, 1) := by decide +kernel
theorem dX7_outputsOn_4 : decode cX7_outputsOn 4 = .ok (.iload_n 2, 1) := by decide +kernel
theorem dX7_outputsOn_5 : decode cX7_outputsOn 5 = .ok (.iconst 4, 1) := by decide +kernel
theorem dX7_outputsOn_6 : decode cX7_outputsOn 6 = .ok (.if_icmp .ge 28, 3) := by decide +kernel
theorem dX7_outputsOn_9 : decode cX7_outputsOn 9 = .ok (.iload_n 1, 1) := by decide +kernel
theorem dX7_outputsOn_10 : decode cX7_outputsOn 10 = .ok (.aload_n 0, 1) := by decide +kernel
theorem dX7_outputsOn_11 : decode cX7_outputsOn 11 = .ok (.getfield 29, 3) := by decide +kernel
theorem dX7_outputsOn_14 : decode cX7_outputsOn 14 = .ok (.iload_n 2, 1) := by decide +kernel
theorem dX7_outputsOn_15 : decode cX7_outputsOn 15 = .ok (.aaload, 1) := by decide +kernel
theorem dX7_outputsOn_16 : decode cX7_outputsOn 16 = .ok (.aload_n 0, 1) := by decide +kernel
theorem dX7_outputsOn_17 : decode cX7_outputsOn 17 = .ok (.getfield 117, 3) := by decide +kernel
theorem dX7_outputsOn_20 : decode cX7_outputsOn 20 = .ok (.invokevirtual 204, 3) := by decide +kernel
theorem dX7_outputsOn_23 : decode cX7_outputsOn 23 = .ok (.invokestatic 207, 3) := by decide +kernel
theorem dX7_outputsOn_26 : decode cX7_outputsOn 26 = .ok (.iadd, 1) := by decide +kernel
theorem dX7_outputsOn_27 : decode cX7_outputsOn 27 = .ok (.istore_n 1, 1) := by decide +kernel
theorem dX7_outputsOn_28 : decode cX7_outputsOn 28 = .ok (.iinc 2 1, 3) := by decide +kernel
theorem dX7_outputsOn_31 : decode cX7_outputsOn 31 = .ok (.goto (-27), 3) := by decide +kernel
theorem dX7_outputsOn_34 : decode cX7_outputsOn 34 = .ok (.iload_n 1, 1) := by decide +kernel
theorem dX7_outputsOn_35 : decode cX7_outputsOn 35 = .ok (.ireturn, 1) := by decide +kernel
theorem dX7_catchersReady_0 : decode cX7_catchersReady 0 = .ok (.iconst 0, 1) := by decide +kernel
theorem dX7_catchersReady_1 : decode cX7_catchersReady 1 = .ok (.istore_n 1, 1) := by decide +kernel
theorem dX7_catchersReady_2 : decode cX7_catchersReady 2 = .ok (.iconst 0, 1) := by decide +kernel
theorem dX7_catchersReady_3 : decode cX7_catchersReady 3 = .ok (.istore_n 2, 1) := by decide +kernel
theorem dX7_catchersReady_4 : decode cX7_catchersReady 4 = .ok (.iload_n 2, 1) := by decide +kernel
theorem dX7_catchersReady_5 : decode cX7_catchersReady 5 = .ok (.iconst 4, 1) := by decide +kernel
theorem dX7_catchersReady_6 : decode cX7_catchersReady 6 = .ok (.if_icmp .ge 21, 3) := by decide +kernel
theorem dX7_catchersReady_9 : decode cX7_catchersReady 9 = .ok (.iload_n 1, 1) := by decide +kernel
theorem dX7_catchersReady_10 : decode cX7_catchersReady 10 = .ok (.aload_n 0, 1) := by decide +kernel
theorem dX7_catchersReady_11 : decode cX7_catchersReady 11 = .ok (.getfield 23, 3) := by decide +kernel
theorem dX7_catchersReady_14 : decode cX7_catchersReady 14 = .ok (.iload_n 2, 1) := by decide +kernel
theorem dX7_catchersReady_15 : decode cX7_catchersReady 15 = .ok (.aaload, 1) := by decide +kernel
theorem dX7_catchersReady_16 : decode cX7_catchersReady 16 = .ok (.getfield 212, 3) := by decide +kernel
theorem dX7_catchersReady_19 : decode cX7_catchersReady 19 = .ok (.iadd, 1) := by decide +kernel
theorem dX7_catchersReady_20 : decode cX7_catchersReady 20 = .ok (.istore_n 1, 1) := by decide +kernel
theorem dX7_catchersReady_21 : decode cX7_catchersReady 21 = .ok (.iinc 2 1, 3) := by decide +kernel
theorem dX7_catchersReady_24 : decode cX7_catchersReady 24 = .ok (.goto (-20), 3) := by decide +kernel
theorem dX7_catchersReady_27 : decode cX7_catchersReady 27 = .ok (.iload_n 1, 1) := by decide +kernel
theorem dX7_catchersReady_28 : decode cX7_catchersReady 28 = .ok (.ireturn, 1) := by decide +kernel
theorem dX7_oversOfAll_0 : decode cX7_oversOfAll 0 = .ok (.iconst 0, 1) := by decide +kernel
theorem dX7_oversOfAll_1 : decode cX7_oversOfAll 1 = .ok (.istore_n 1, 1) := by decide +kernel
theorem dX7_oversOfAll_2 : decode cX7_oversOfAll 2 = .ok (.iconst 0, 1) := by decide +kernel
theorem dX7_oversOfAll_3 : decode cX7_oversOfAll 3 = .ok (.istore_n 2, 1) := by decide +kernel
theorem dX7_oversOfAll_4 : decode cX7_oversOfAll 4 = .ok (.iload_n 2, 1) := by decide +kernel
theorem dX7_oversOfAll_5 : decode cX7_oversOfAll 5 = .ok (.iconst 4, 1) := by decide +kernel
theorem dX7_oversOfAll_6 : decode cX7_oversOfAll 6 = .ok (.if_icmp .ge 21, 3) := by decide +kernel
theorem dX7_oversOfAll_9 : decode cX7_oversOfAll 9 = .ok (.iload_n 1, 1) := by decide +kernel
theorem dX7_oversOfAll_10 : decode cX7_oversOfAll 10 = .ok (.aload_n 0, 1) := by decide +kernel
theorem dX7_oversOfAll_11 : decode cX7_oversOfAll 11 = .ok (.getfield 11, 3) := by decide +kernel
theorem dX7_oversOfAll_14 : decode cX7_oversOfAll 14 = .ok (.iload_n 2, 1) := by decide +kernel
theorem dX7_oversOfAll_15 : decode cX7_oversOfAll 15 = .ok (.aaload, 1) := by decide +kernel
theorem dX7_oversOfAll_16 : decode cX7_oversOfAll 16 = .ok (.getfield 215, 3) := by decide +kernel
theorem dX7_oversOfAll_19 : decode cX7_oversOfAll 19 = .ok (.iadd, 1) := by decide +kernel
theorem dX7_oversOfAll_20 : decode cX7_oversOfAll 20 = .ok (.istore_n 1, 1) := by decide +kernel
theorem dX7_oversOfAll_21 : decode cX7_oversOfAll 21 = .ok (.iinc 2 1, 3) := by decide +kernel
theorem dX7_oversOfAll_24 : decode cX7_oversOfAll 24 = .ok (.goto (-20), 3) := by decide +kernel
theorem dX7_oversOfAll_27 : decode cX7_oversOfAll 27 = .ok (.iload_n 1, 1) := by decide +kernel
theorem dX7_oversOfAll_28 : decode cX7_oversOfAll 28 = .ok (.ireturn, 1) := by decide +kernel
theorem dX7_isOneOf_0 : decode cX7_isOneOf 0 = .ok (.iload_n 1, 1) := by decide +kernel
theorem dX7_isOneOf_1 : decode cX7_isOneOf 1 = .ok (.ifCond .lt 12, 3) := by decide +kernel
theorem dX7_isOneOf_4 : decode cX7_isOneOf 4 = .ok (.iload_n 1, 1) := by decide +kernel
theorem dX7_isOneOf_5 : decode cX7_isOneOf 5 = .ok (.iload_n 0, 1) := by decide +kernel
theorem dX7_isOneOf_6 : decode cX7_isOneOf 6 = .ok (.if_icmp .ge 7, 3) := by decide +kernel
theorem dX7_isOneOf_9 : decode cX7_isOneOf 9 = .ok (.iconst 1, 1) := by decide +kernel
theorem dX7_isOneOf_10 : decode cX7_isOneOf 10 = .ok (.goto 4, 3) := by decide +kernel
theorem dX7_isOneOf_13 : decode cX7_isOneOf 13 = .ok (.iconst 0, 1) := by decide +kernel
theorem dX7_isOneOf_14 : decode cX7_isOneOf 14 = .ok (.ireturn, 1) := by decide +kernel
theorem dX7_within_0 : decode cX7_within 0 = .ok (.iload_n 0, 1) := by decide +kernel
theorem dX7_within_1 : decode cX7_within 1 = .ok (.iload_n 1, 1) := by decide +kernel
theorem dX7_within_2 : decode cX7_within 2 = .ok (.if_icmp .lt 12, 3) := by decide +kernel
theorem dX7_within_5 : decode cX7_within 5 = .ok (.iload_n 0, 1) := by decide +kernel
theorem dX7_within_6 : decode cX7_within 6 = .ok (.iload_n 2, 1) := by decide +kernel
theorem dX7_within_7 : decode cX7_within 7 = .ok (.if_icmp .gt 7, 3) := by decide +kernel
theorem dX7_within_10 : decode cX7_within 10 = .ok (.iconst 1, 1) := by decide +kernel
theorem dX7_within_11 : decode cX7_within 11 = .ok (.goto 4, 3) := by decide +kernel
theorem dX7_within_14 : decode cX7_within 14 = .ok (.iconst 0, 1) := by decide +kernel
theorem dX7_within_15 : decode cX7_within 15 = .ok (.ireturn, 1) := by decide +kernel
set_option maxRecDepth 20000 in
theorem ggX7_isSetOfOutputs_X7_within : GoodIn wsX7_isSetOfOutputs wsX7_within := goodIn_r _ [4] (by decide +kernel) (by decide +kernel)
set_option maxRecDepth 20000 in
theorem gX7_isSetOfOutputs_X7_within : GoodIn wsX7_isSetOfOutputs (va_wsS RX7 62 yX7_within wsX7_within) := goodIn_app (goodIn_of _ (by decide +kernel)) ggX7_isSetOfOutputs_X7_within
theorem dX7_isSetOfOutputs_0 : decode cX7_isSetOfOutputs 0 = .ok (.iload_n 0, 1) := by decide +kernel
