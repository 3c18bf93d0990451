section
-- ===== PART A: goes FIRST, ahead of the names: the tables' words, and 'selects' of the private methods out of them =====
/-- a private method of a class that the tables say can be made, by its rows of tables_1 -/
def lw_okq (q : MethodName × Nat) : Prop := (q.1.cls ≠ "java/lang/invoke/MethodHandle" ∧ q.1.cls ≠ "java/lang/invoke/VarHandle") ∧ Cond.instantiable q.1.cls q.2 ∈ tables_1 ∧ Cond.privateMethod q.1 ∈ tables_1 ∧ Cond.instanceMethod q.1 ∈ tables_1
theorem lw_p0 : lw_okq (⟨"ChipTimers", "runTick", "()V"⟩, 9) := ⟨⟨by decide +kernel, by decide +kernel⟩, List.mem_of_getElem? (i := 13) (by decide +kernel), List.mem_of_getElem? (i := 336) (by decide +kernel), List.mem_of_getElem? (i := 337) (by decide +kernel)⟩
theorem lw_p1 : lw_okq (⟨"ChipTimers", "hasPulse", "(I)Z"⟩, 9) := ⟨⟨by decide +kernel, by decide +kernel⟩, List.mem_of_getElem? (i := 13) (by decide +kernel), List.mem_of_getElem? (i := 344) (by decide +kernel), List.mem_of_getElem? (i := 345) (by decide +kernel)⟩
theorem lw_p2 : lw_okq (⟨"ChipTimers$Counter", "step", "()V"⟩, 11) := ⟨⟨by decide +kernel, by decide +kernel⟩, List.mem_of_getElem? (i := 82) (by decide +kernel), List.mem_of_getElem? (i := 352) (by decide +kernel), List.mem_of_getElem? (i := 353) (by decide +kernel)⟩
theorem lw_p3 : lw_okq (⟨"ChipTimers$Counter", "stepUp", "()V"⟩, 11) := ⟨⟨by decide +kernel, by decide +kernel⟩, List.mem_of_getElem? (i := 82) (by decide +kernel), List.mem_of_getElem? (i := 356) (by decide +kernel), List.mem_of_getElem? (i := 357) (by decide +kernel)⟩
theorem lw_p4 : lw_okq (⟨"ChipTimers$Counter", "goOver", "()V"⟩, 11) := ⟨⟨by decide +kernel, by decide +kernel⟩, List.mem_of_getElem? (i := 82) (by decide +kernel), List.mem_of_getElem? (i := 360) (by decide +kernel), List.mem_of_getElem? (i := 361) (by decide +kernel)⟩
theorem lw_p5 : lw_okq (⟨"ChipTimers$Counter", "takeWaitingTop", "()V"⟩, 11) := ⟨⟨by decide +kernel, by decide +kernel⟩, List.mem_of_getElem? (i := 82) (by decide +kernel), List.mem_of_getElem? (i := 364) (by decide +kernel), List.mem_of_getElem? (i := 365) (by decide +kernel)⟩
theorem lw_p6 : lw_okq (⟨"ChipTimers$Counter", "stepDown", "()V"⟩, 11) := ⟨⟨by decide +kernel, by decide +kernel⟩, List.mem_of_getElem? (i := 82) (by decide +kernel), List.mem_of_getElem? (i := 368) (by decide +kernel), List.mem_of_getElem? (i := 369) (by decide +kernel)⟩
theorem lw_p7 : lw_okq (⟨"ChipTimers$Counter", "stepBothWays", "()V"⟩, 11) := ⟨⟨by decide +kernel, by decide +kernel⟩, List.mem_of_getElem? (i := 82) (by decide +kernel), List.mem_of_getElem? (i := 372) (by decide +kernel), List.mem_of_getElem? (i := 373) (by decide +kernel)⟩
theorem lw_p8 : lw_okq (⟨"ChipTimers$Channel", "nextLevel", "(LChipTimers$Counter;)I"⟩, 8) := ⟨⟨by decide +kernel, by decide +kernel⟩, List.mem_of_getElem? (i := 184) (by decide +kernel), List.mem_of_getElem? (i := 384) (by decide +kernel), List.mem_of_getElem? (i := 385) (by decide +kernel)⟩
theorem lw_p9 : lw_okq (⟨"ChipTimers", "workOutPins", "()V"⟩, 9) := ⟨⟨by decide +kernel, by decide +kernel⟩, List.mem_of_getElem? (i := 13) (by decide +kernel), List.mem_of_getElem? (i := 401) (by decide +kernel), List.mem_of_getElem? (i := 402) (by decide +kernel)⟩
theorem lw_p10 : lw_okq (⟨"ChipTimers", "isWhole", "(I)Z"⟩, 9) := ⟨⟨by decide +kernel, by decide +kernel⟩, List.mem_of_getElem? (i := 13) (by decide +kernel), List.mem_of_getElem? (i := 474) (by decide +kernel), List.mem_of_getElem? (i := 475) (by decide +kernel)⟩
theorem lw_p11 : lw_okq (⟨"ChipTimers", "outputsOn", "()I"⟩, 9) := ⟨⟨by decide +kernel, by decide +kernel⟩, List.mem_of_getElem? (i := 13) (by decide +kernel), List.mem_of_getElem? (i := 506) (by decide +kernel), List.mem_of_getElem? (i := 507) (by decide +kernel)⟩
theorem lw_p12 : lw_okq (⟨"ChipTimers", "catchersReady", "()I"⟩, 9) := ⟨⟨by decide +kernel, by decide +kernel⟩, List.mem_of_getElem? (i := 13) (by decide +kernel), List.mem_of_getElem? (i := 517) (by decide +kernel), List.mem_of_getElem? (i := 518) (by decide +kernel)⟩
theorem lw_p13 : lw_okq (⟨"ChipTimers", "oversOfAll", "()I"⟩, 9) := ⟨⟨by decide +kernel, by decide +kernel⟩, List.mem_of_getElem? (i := 13) (by decide +kernel), List.mem_of_getElem? (i := 521) (by decide +kernel), List.mem_of_getElem? (i := 522) (by decide +kernel)⟩
theorem lw_p14 : lw_okq (⟨"ChipTimersModel", "oneTick", "()V"⟩, 45) := ⟨⟨by decide +kernel, by decide +kernel⟩, List.mem_of_getElem? (i := 525) (by decide +kernel), List.mem_of_getElem? (i := 722) (by decide +kernel), List.mem_of_getElem? (i := 723) (by decide +kernel)⟩
theorem lw_p15 : lw_okq (⟨"ChipTimersModel", "inputs", "()V"⟩, 45) := ⟨⟨by decide +kernel, by decide +kernel⟩, List.mem_of_getElem? (i := 525) (by decide +kernel), List.mem_of_getElem? (i := 726) (by decide +kernel), List.mem_of_getElem? (i := 727) (by decide +kernel)⟩
def lw_privs_1 : List (MethodName × Nat) := [(⟨"ChipTimers", "runTick", "()V"⟩, 9), (⟨"ChipTimers", "hasPulse", "(I)Z"⟩, 9), (⟨"ChipTimers$Counter", "step", "()V"⟩, 11), (⟨"ChipTimers$Counter", "stepUp", "()V"⟩, 11), (⟨"ChipTimers$Counter", "goOver", "()V"⟩, 11), (⟨"ChipTimers$Counter", "takeWaitingTop", "()V"⟩, 11), (⟨"ChipTimers$Counter", "stepDown", "()V"⟩, 11), (⟨"ChipTimers$Counter", "stepBothWays", "()V"⟩, 11), (⟨"ChipTimers$Channel", "nextLevel", "(LChipTimers$Counter;)I"⟩, 8), (⟨"ChipTimers", "workOutPins", "()V"⟩, 9), (⟨"ChipTimers", "isWhole", "(I)Z"⟩, 9), (⟨"ChipTimers", "outputsOn", "()I"⟩, 9), (⟨"ChipTimers", "catchersReady", "()I"⟩, 9), (⟨"ChipTimers", "oversOfAll", "()I"⟩, 9), (⟨"ChipTimersModel", "oneTick", "()V"⟩, 45), (⟨"ChipTimersModel", "inputs", "()V"⟩, 45)]
theorem lw_r1 : ∀ q ∈ lw_privs_1, lw_okq q := List.forall_mem_cons.mpr ⟨lw_p0, List.forall_mem_cons.mpr ⟨lw_p1, List.forall_mem_cons.mpr ⟨lw_p2, List.forall_mem_cons.mpr ⟨lw_p3, List.forall_mem_cons.mpr ⟨lw_p4, List.forall_mem_cons.mpr ⟨lw_p5, List.forall_mem_cons.mpr ⟨lw_p6, List.forall_mem_cons.mpr ⟨lw_p7, List.forall_mem_cons.mpr ⟨lw_p8, List.forall_mem_cons.mpr ⟨lw_p9, List.forall_mem_cons.mpr ⟨lw_p10, List.forall_mem_cons.mpr ⟨lw_p11, List.forall_mem_cons.mpr ⟨lw_p12, List.forall_mem_cons.mpr ⟨lw_p13, List.forall_mem_cons.mpr ⟨lw_p14, List.forall_mem_cons.mpr ⟨lw_p15, fun _ h => absurd h List.not_mem_nil⟩⟩⟩⟩⟩⟩⟩⟩⟩⟩⟩⟩⟩⟩⟩⟩
theorem lw_p16 : lw_okq (⟨"ChipTimersModel", "counters", "()V"⟩, 45) := ⟨⟨by decide +kernel, by decide +kernel⟩, List.mem_of_getElem? (i := 525) (by decide +kernel), List.mem_of_getElem? (i := 730) (by decide +kernel), List.mem_of_getElem? (i := 731) (by decide +kernel)⟩
theorem lw_p17 : lw_okq (⟨"ChipTimersModel", "hasPulse", "(I)Z"⟩, 45) := ⟨⟨by decide +kernel, by decide +kernel⟩, List.mem_of_getElem? (i := 525) (by decide +kernel), List.mem_of_getElem? (i := 734) (by decide +kernel), List.mem_of_getElem? (i := 735) (by decide +kernel)⟩
theorem lw_p18 : lw_okq (⟨"ChipTimersModel", "steps", "(I)V"⟩, 45) := ⟨⟨by decide +kernel, by decide +kernel⟩, List.mem_of_getElem? (i := 525) (by decide +kernel), List.mem_of_getElem? (i := 738) (by decide +kernel), List.mem_of_getElem? (i := 739) (by decide +kernel)⟩
theorem lw_p19 : lw_okq (⟨"ChipTimersModel", "stepsUp", "(I)V"⟩, 45) := ⟨⟨by decide +kernel, by decide +kernel⟩, List.mem_of_getElem? (i := 525) (by decide +kernel), List.mem_of_getElem? (i := 742) (by decide +kernel), List.mem_of_getElem? (i := 743) (by decide +kernel)⟩
theorem lw_p20 : lw_okq (⟨"ChipTimersModel", "goesOver", "(I)V"⟩, 45) := ⟨⟨by decide +kernel, by decide +kernel⟩, List.mem_of_getElem? (i := 525) (by decide +kernel), List.mem_of_getElem? (i := 746) (by decide +kernel), List.mem_of_getElem? (i := 747) (by decide +kernel)⟩
theorem lw_p21 : lw_okq (⟨"ChipTimersModel", "takesTop", "(I)V"⟩, 45) := ⟨⟨by decide +kernel, by decide +kernel⟩, List.mem_of_getElem? (i := 525) (by decide +kernel), List.mem_of_getElem? (i := 750) (by decide +kernel), List.mem_of_getElem? (i := 751) (by decide +kernel)⟩
theorem lw_p22 : lw_okq (⟨"ChipTimersModel", "stepsDown", "(I)V"⟩, 45) := ⟨⟨by decide +kernel, by decide +kernel⟩, List.mem_of_getElem? (i := 525) (by decide +kernel), List.mem_of_getElem? (i := 754) (by decide +kernel), List.mem_of_getElem? (i := 755) (by decide +kernel)⟩
theorem lw_p23 : lw_okq (⟨"ChipTimersModel", "stepsBoth", "(I)V"⟩, 45) := ⟨⟨by decide +kernel, by decide +kernel⟩, List.mem_of_getElem? (i := 525) (by decide +kernel), List.mem_of_getElem? (i := 758) (by decide +kernel), List.mem_of_getElem? (i := 759) (by decide +kernel)⟩
theorem lw_p24 : lw_okq (⟨"ChipTimersModel", "catchers", "()V"⟩, 45) := ⟨⟨by decide +kernel, by decide +kernel⟩, List.mem_of_getElem? (i := 525) (by decide +kernel), List.mem_of_getElem? (i := 762) (by decide +kernel), List.mem_of_getElem? (i := 763) (by decide +kernel)⟩
theorem lw_p25 : lw_okq (⟨"ChipTimersModel", "channels", "()V"⟩, 45) := ⟨⟨by decide +kernel, by decide +kernel⟩, List.mem_of_getElem? (i := 525) (by decide +kernel), List.mem_of_getElem? (i := 766) (by decide +kernel), List.mem_of_getElem? (i := 767) (by decide +kernel)⟩
theorem lw_p26 : lw_okq (⟨"ChipTimersModel", "levelThen", "(I)I"⟩, 45) := ⟨⟨by decide +kernel, by decide +kernel⟩, List.mem_of_getElem? (i := 525) (by decide +kernel), List.mem_of_getElem? (i := 770) (by decide +kernel), List.mem_of_getElem? (i := 771) (by decide +kernel)⟩
theorem lw_p27 : lw_okq (⟨"ChipTimersModel", "sampleOf", "(II)I"⟩, 45) := ⟨⟨by decide +kernel, by decide +kernel⟩, List.mem_of_getElem? (i := 525) (by decide +kernel), List.mem_of_getElem? (i := 774) (by decide +kernel), List.mem_of_getElem? (i := 775) (by decide +kernel)⟩
theorem lw_p28 : lw_okq (⟨"ChipTimersModel", "pins", "()V"⟩, 45) := ⟨⟨by decide +kernel, by decide +kernel⟩, List.mem_of_getElem? (i := 525) (by decide +kernel), List.mem_of_getElem? (i := 784) (by decide +kernel), List.mem_of_getElem? (i := 785) (by decide +kernel)⟩
theorem lw_p29 : lw_okq (⟨"ChipTimersModel", "pinThen", "(II)I"⟩, 45) := ⟨⟨by decide +kernel, by decide +kernel⟩, List.mem_of_getElem? (i := 525) (by decide +kernel), List.mem_of_getElem? (i := 788) (by decide +kernel), List.mem_of_getElem? (i := 789) (by decide +kernel)⟩
theorem lw_p30 : lw_okq (⟨"ChipTimersModel", "isOn", "(II)Z"⟩, 45) := ⟨⟨by decide +kernel, by decide +kernel⟩, List.mem_of_getElem? (i := 525) (by decide +kernel), List.mem_of_getElem? (i := 792) (by decide +kernel), List.mem_of_getElem? (i := 793) (by decide +kernel)⟩
theorem lw_p31 : lw_okq (⟨"ChipTimersModel", "enters", "(I)V"⟩, 45) := ⟨⟨by decide +kernel, by decide +kernel⟩, List.mem_of_getElem? (i := 525) (by decide +kernel), List.mem_of_getElem? (i := 796) (by decide +kernel), List.mem_of_getElem? (i := 797) (by decide +kernel)⟩
def lw_privs_2 : List (MethodName × Nat) := [(⟨"ChipTimersModel", "counters", "()V"⟩, 45), (⟨"ChipTimersModel", "hasPulse", "(I)Z"⟩, 45), (⟨"ChipTimersModel", "steps", "(I)V"⟩, 45), (⟨"ChipTimersModel", "stepsUp", "(I)V"⟩, 45), (⟨"ChipTimersModel", "goesOver", "(I)V"⟩, 45), (⟨"ChipTimersModel", "takesTop", "(I)V"⟩, 45), (⟨"ChipTimersModel", "stepsDown", "(I)V"⟩, 45), (⟨"ChipTimersModel", "stepsBoth", "(I)V"⟩, 45), (⟨"ChipTimersModel", "catchers", "()V"⟩, 45), (⟨"ChipTimersModel", "channels", "()V"⟩, 45), (⟨"ChipTimersModel", "levelThen", "(I)I"⟩, 45), (⟨"ChipTimersModel", "sampleOf", "(II)I"⟩, 45), (⟨"ChipTimersModel", "pins", "()V"⟩, 45), (⟨"ChipTimersModel", "pinThen", "(II)I"⟩, 45), (⟨"ChipTimersModel", "isOn", "(II)Z"⟩, 45), (⟨"ChipTimersModel", "enters", "(I)V"⟩, 45)]
theorem lw_r2 : ∀ q ∈ lw_privs_2, lw_okq q := List.forall_mem_cons.mpr ⟨lw_p16, List.forall_mem_cons.mpr ⟨lw_p17, List.forall_mem_cons.mpr ⟨lw_p18, List.forall_mem_cons.mpr ⟨lw_p19, List.forall_mem_cons.mpr ⟨lw_p20, List.forall_mem_cons.mpr ⟨lw_p21, List.forall_mem_cons.mpr ⟨lw_p22, List.forall_mem_cons.mpr ⟨lw_p23, List.forall_mem_cons.mpr ⟨lw_p24, List.forall_mem_cons.mpr ⟨lw_p25, List.forall_mem_cons.mpr ⟨lw_p26, List.forall_mem_cons.mpr ⟨lw_p27, List.forall_mem_cons.mpr ⟨lw_p28, List.forall_mem_cons.mpr ⟨lw_p29, List.forall_mem_cons.mpr ⟨lw_p30, List.forall_mem_cons.mpr ⟨lw_p31, fun _ h => absurd h List.not_mem_nil⟩⟩⟩⟩⟩⟩⟩⟩⟩⟩⟩⟩⟩⟩⟩⟩
theorem lw_p32 : lw_okq (⟨"ChipTimersModel", "onOf", "(I)I"⟩, 45) := ⟨⟨by decide +kernel, by decide +kernel⟩, List.mem_of_getElem? (i := 525) (by decide +kernel), List.mem_of_getElem? (i := 812) (by decide +kernel), List.mem_of_getElem? (i := 813) (by decide +kernel)⟩
theorem lw_p33 : lw_okq (⟨"ChipTimersModel", "brakes", "(Z)I"⟩, 45) := ⟨⟨by decide +kernel, by decide +kernel⟩, List.mem_of_getElem? (i := 525) (by decide +kernel), List.mem_of_getElem? (i := 824) (by decide +kernel), List.mem_of_getElem? (i := 825) (by decide +kernel)⟩
theorem lw_p34 : lw_okq (⟨"ChipTimersModel", "isWhole", "(I)Z"⟩, 45) := ⟨⟨by decide +kernel, by decide +kernel⟩, List.mem_of_getElem? (i := 525) (by decide +kernel), List.mem_of_getElem? (i := 847) (by decide +kernel), List.mem_of_getElem? (i := 848) (by decide +kernel)⟩
def lw_privs_3 : List (MethodName × Nat) := [(⟨"ChipTimersModel", "onOf", "(I)I"⟩, 45), (⟨"ChipTimersModel", "brakes", "(Z)I"⟩, 45), (⟨"ChipTimersModel", "isWhole", "(I)Z"⟩, 45)]
theorem lw_r3 : ∀ q ∈ lw_privs_3, lw_okq q := List.forall_mem_cons.mpr ⟨lw_p32, List.forall_mem_cons.mpr ⟨lw_p33, List.forall_mem_cons.mpr ⟨lw_p34, fun _ h => absurd h List.not_mem_nil⟩⟩⟩
def lw_privs : List (MethodName × Nat) := lw_privs_1 ++ (lw_privs_2 ++ (lw_privs_3))
def lw_tbl : List Cond := k2_sels lw_privs ++ tables_1
theorem lw_privs_ok : ∀ q ∈ lw_privs, lw_okq q := by
  show ∀ q ∈ lw_privs_1 ++ (lw_privs_2 ++ (lw_privs_3)), lw_okq q
  exact List.forall_mem_append.mpr ⟨lw_r1, List.forall_mem_append.mpr ⟨lw_r2, lw_r3⟩⟩
end
section
/-! ===== BEGIN words of one list among another's, by their places ===== -/
theorem goodIn_r {big : List Cond} (ws : List Cond) (ps : List Nat) (hp : ws = ps.filterMap (fun i => big[i]?)) (h : ws.all goodWord = true) : GoodIn big ws := by
  intro w hw
  have h1 := List.all_eq_true.mp h w hw
  rw [hp] at hw
  obtain ⟨i, -, hi⟩ := List.mem_filterMap.mp hw
  have hm : w ∈ big := by first | exact List.mem_of_getElem? hi | exact List.getElem?_mem hi
  exact ⟨hm, good_of_word h1⟩
theorem goodIn_app {big a b : List Cond} (ha : GoodIn big a) (hb : GoodIn big b) : GoodIn big (a ++ b) := fun w h => (List.mem_append.mp h).elim (ha w) (hb w)
theorem goodIn_ca {big a b : List Cond} {c : Cond} (ha : GoodIn big (c :: a)) (hb : GoodIn big b) : GoodIn big (c :: (a ++ b)) := fun w h => (List.mem_cons.mp h).elim (fun e => ha w (List.mem_cons.mpr (Or.inl e))) (fun h => (List.mem_append.mp h).elim (fun h => ha w (List.mem_cons.mpr (Or.inr h))) (hb w))
theorem goodIn_sub {big ws : List Cond} (hm : ∀ w ∈ ws, w ∈ big) (h : ws.all goodWord = true) : GoodIn big ws := fun w hw => ⟨hm w hw, good_of_word (List.all_eq_true.mp h w hw)⟩
/-! ===== END ===== -/

/-! ===== BEGIN printed: names, fields, word lists, decode rows ===== -/
def RX0 : String := "ChipTimers$Catcher"
def TX0 : u_T := fun k => match k with
  | 0 => ("ChipTimers$Catcher", "counter", "I", false)
  | 1 => ("ChipTimers$Catcher", "edges", "I", false)
  | 2 => ("ChipTimers$Catcher", "every", "I", false)
  | 3 => ("ChipTimers$Catcher", "seen", "I", false)
  | 4 => ("ChipTimers$Catcher", "value", "I", false)
  | 5 => ("ChipTimers$Catcher", "ready", "I", false)
  | _ => ("ChipTimers$Catcher", "missed", "I", false)
def tyX0 : Nat → FieldType := fun k => match k with
  | 0 => .int
  | 1 => .int
  | 2 => .int
  | 3 => .int
  | 4 => .int
  | 5 => .int
  | _ => .int
abbrev wsX00 : List Cond := u_ws RX0 TX0 7
theorem nmX0 : ∀ a, a < 7 → ∀ b, b < 7 → a ≠ b → (TX0 a).2.1 ≠ (TX0 b).2.1 := by decide +kernel
theorem tyX0_ok : ∀ k, k < 7 → parseFieldDescriptor (TX0 k).2.2.1 = some (tyX0 k) := by decide +kernel
abbrev cX0_init : ByteArray := prog_2_method_1_code
def yX0_init : MethodName := ⟨RX0, "<init>", "()V"⟩
abbrev cX0_setUp : ByteArray := prog_2_method_2_code
def yX0_setUp : MethodName := ⟨RX0, "setUp", "(III)V"⟩
abbrev cX0_notice : ByteArray := prog_2_method_3_code
def yX0_notice : MethodName := ⟨RX0, "notice", "(II)V"⟩
abbrev cX0_handOver : ByteArray := prog_2_method_4_code
def yX0_handOver : MethodName := ⟨RX0, "handOver", "()I"⟩
abbrev cX0_tell : ByteArray := prog_2_method_5_code
def yX0_tell : MethodName := ⟨RX0, "tell", "(I)I"⟩
def RX1 : String := "ChipTimers$Channel"
def TX1 : u_T := fun k => match k with
  | 0 => ("ChipTimers$Channel", "counter", "I", false)
  | 1 => ("ChipTimers$Channel", "mode", "I", false)
  | 2 => ("ChipTimers$Channel", "mark", "I", false)
  | 3 => ("ChipTimers$Channel", "level", "I", false)
  | 4 => ("ChipTimers$Channel", "since", "I", false)
  | 5 => ("ChipTimers$Channel", "dead", "I", false)
  | 6 => ("ChipTimers$Channel", "polarity", "I", false)
  | _ => ("ChipTimers$Channel", "safe", "I", false)
def tyX1 : Nat → FieldType := fun k => match k with
  | 0 => .int
  | 1 => .int
  | 2 => .int
  | 3 => .int
  | 4 => .int
  | 5 => .int
  | 6 => .int
  | _ => .int
abbrev wsX10 : List Cond := u_ws RX1 TX1 8
theorem nmX1 : ∀ a, a < 8 → ∀ b, b < 8 → a ≠ b → (TX1 a).2.1 ≠ (TX1 b).2.1 := by decide +kernel
theorem tyX1_ok : ∀ k, k < 8 → parseFieldDescriptor (TX1 k).2.2.1 = some (tyX1 k) := by decide +kernel
abbrev cX1_init : ByteArray := prog_3_method_1_code
def yX1_init : MethodName := ⟨RX1, "<init>", "()V"⟩
abbrev cX1_setUp : ByteArray := prog_3_method_2_code
def yX1_setUp : MethodName := ⟨RX1, "setUp", "(III)V"⟩
abbrev cX1_shapeOutputs : ByteArray := prog_3_method_3_code
def yX1_shapeOutputs : MethodName := ⟨RX1, "shapeOutputs", "(III)V"⟩
abbrev cX1_follow : ByteArray := prog_3_method_4_code
def yX1_follow : MethodName := ⟨RX1, "follow", "(LChipTimers$Counter;)V"⟩
abbrev cX1_nextLevel : ByteArray := prog_3_method_5_code
def yX1_nextLevel : MethodName := ⟨RX1, "nextLevel", "(LChipTimers$Counter;)I"⟩
abbrev cX1_outputsOn : ByteArray := prog_3_method_6_code
def yX1_outputsOn : MethodName := ⟨RX1, "outputsOn", "(Z)I"⟩
abbrev cX1_pinLevel : ByteArray := prog_3_method_7_code
def yX1_pinLevel : MethodName := ⟨RX1, "pinLevel", "(IZ)I"⟩
abbrev cX1_tell : ByteArray := prog_3_method_8_code
def yX1_tell : MethodName := ⟨RX1, "tell", "(IZ)I"⟩
def RX2 : String := "ChipTimers$Counter"
def TX2 : u_T := fun k => match k with
  | 0 => ("ChipTimers$Counter", "mode", "I", false)
  | 1 => ("ChipTimers$Counter", "top", "I", false)
  | 2 => ("ChipTimers$Counter", "share", "I", false)
  | 3 => ("ChipTimers$Counter", "source", "I", false)
  | 4 => ("ChipTimers$Counter", "count", "I", false)
  | 5 => ("ChipTimers$Counter", "phase", "I", false)
  | 6 => ("ChipTimers$Counter", "way", "I", false)
  | 7 => ("ChipTimers$Counter", "overs", "I", false)
  | 8 => ("ChipTimers$Counter", "waitingTop", "I", false)
  | 9 => ("ChipTimers$Counter", "wentOver", "Z", false)
  | _ => ("ChipTimers$Counter", "stepped", "Z", false)
def tyX2 : Nat → FieldType := fun k => match k with
  | 0 => .int
  | 1 => .int
  | 2 => .int
  | 3 => .int
  | 4 => .int
  | 5 => .int
  | 6 => .int
  | 7 => .int
  | 8 => .int
  | 9 => .boolean
  | _ => .boolean
abbrev wsX20 : List Cond := u_ws RX2 TX2 11
theorem nmX2 : ∀ a, a < 11 → ∀ b, b < 11 → a ≠ b → (TX2 a).2.1 ≠ (TX2 b).2.1 := by decide +kernel
theorem tyX2_ok : ∀ k, k < 11 → parseFieldDescriptor (TX2 k).2.2.1 = some (tyX2 k) := by decide +kernel
abbrev cX2_init : ByteArray := prog_4_method_1_code
def yX2_init : MethodName := ⟨RX2, "<init>", "()V"⟩
abbrev cX2_setUp : ByteArray := prog_4_method_2_code
def yX2_setUp : MethodName := ⟨RX2, "setUp", "(III)V"⟩
abbrev cX2_pass : ByteArray := prog_4_method_3_code
def yX2_pass : MethodName := ⟨RX2, "pass", "(Z)V"⟩
abbrev cX2_step : ByteArray := prog_4_method_4_code
def yX2_step : MethodName := ⟨RX2, "step", "()V"⟩
abbrev cX2_stepUp : ByteArray := prog_4_method_5_code
def yX2_stepUp : MethodName := ⟨RX2, "stepUp", "()V"⟩
abbrev cX2_stepDown : ByteArray := prog_4_method_6_code
def yX2_stepDown : MethodName := ⟨RX2, "stepDown", "()V"⟩
abbrev cX2_stepBothWays : ByteArray := prog_4_method_7_code
def yX2_stepBothWays : MethodName := ⟨RX2, "stepBothWays", "()V"⟩
abbrev cX2_goOver : ByteArray := prog_4_method_8_code
def yX2_goOver : MethodName := ⟨RX2, "goOver", "()V"⟩
abbrev cX2_takeWaitingTop : ByteArray := prog_4_method_9_code
def yX2_takeWaitingTop : MethodName := ⟨RX2, "takeWaitingTop", "()V"⟩
abbrev cX2_tell : ByteArray := prog_4_method_10_code
def yX2_tell : MethodName := ⟨RX2, "tell", "(I)I"⟩
def RX3 : String := "ChipTimers$Input"
def TX3 : u_T := fun k => match k with
  | 0 => ("ChipTimers$Input", "raw", "I", false)
  | 1 => ("ChipTimers$Input", "steady", "I", false)
  | 2 => ("ChipTimers$Input", "run", "I", false)
  | 3 => ("ChipTimers$Input", "filter", "I", false)
  | _ => ("ChipTimers$Input", "edge", "I", false)
def tyX3 : Nat → FieldType := fun k => match k with
  | 0 => .int
  | 1 => .int
  | 2 => .int
  | 3 => .int
  | _ => .int
abbrev wsX30 : List Cond := u_ws RX3 TX3 5
theorem nmX3 : ∀ a, a < 5 → ∀ b, b < 5 → a ≠ b → (TX3 a).2.1 ≠ (TX3 b).2.1 := by decide +kernel
theorem tyX3_ok : ∀ k, k < 5 → parseFieldDescriptor (TX3 k).2.2.1 = some (tyX3 k) := by decide +kernel
abbrev cX3_init : ByteArray := prog_5_method_1_code
def yX3_init : MethodName := ⟨RX3, "<init>", "()V"⟩
abbrev cX3_look : ByteArray := prog_5_method_2_code
def yX3_look : MethodName := ⟨RX3, "look", "()V"⟩
abbrev cX3_tell : ByteArray := prog_5_method_3_code
def yX3_tell : MethodName := ⟨RX3, "tell", "(I)I"⟩
def RX4 : String := "ChipTimers$Pair"
def TX4 : u_T := fun k => match k with
  | 0 => ("ChipTimers$Pair", "holding", "I", false)
  | _ => ("ChipTimers$Pair", "held", "I", false)
def tyX4 : Nat → FieldType := fun k => match k with
  | 0 => .int
  | _ => .int
abbrev wsX40 : List Cond := u_ws RX4 TX4 2
theorem nmX4 : ∀ a, a < 2 → ∀ b, b < 2 → a ≠ b → (TX4 a).2.1 ≠ (TX4 b).2.1 := by decide +kernel
theorem tyX4_ok : ∀ k, k < 2 → parseFieldDescriptor (TX4 k).2.2.1 = some (tyX4 k) := by decide +kernel
abbrev cX4_init : ByteArray := prog_6_method_1_code
def yX4_init : MethodName := ⟨RX4, "<init>", "()V"⟩
abbrev cX4_takeHigh : ByteArray := prog_6_method_2_code
def yX4_takeHigh : MethodName := ⟨RX4, "takeHigh", "(I)I"⟩
def RX5 : String := "ChipTimers$Pins"
def TX5 : u_T := fun k => match k with
  | 0 => ("ChipTimers$Pins", "levels", "[I", true)
  | 1 => ("ChipTimers$Pins", "entryTicks", "[I", true)
  | 2 => ("ChipTimers$Pins", "entryPins", "[I", true)
  | 3 => ("ChipTimers$Pins", "entryLevels", "[I", true)
  | 4 => ("ChipTimers$Pins", "entries", "I", false)
  | _ => ("ChipTimers$Pins", "next", "I", false)
def tyX5 : Nat → FieldType := fun k => match k with
  | 0 => .array .int
  | 1 => .array .int
  | 2 => .array .int
  | 3 => .array .int
  | 4 => .int
  | _ => .int
abbrev wsX50 : List Cond := u_ws RX5 TX5 6
theorem nmX5 : ∀ a, a < 6 → ∀ b, b < 6 → a ≠ b → (TX5 a).2.1 ≠ (TX5 b).2.1 := by decide +kernel
theorem tyX5_ok : ∀ k, k < 6 → parseFieldDescriptor (TX5 k).2.2.1 = some (tyX5 k) := by decide +kernel
abbrev cX5_init : ByteArray := prog_7_method_1_code
def yX5_init : MethodName := ⟨RX5, "<init>", "()V"⟩
abbrev cX5_drive : ByteArray := prog_7_method_2_code
def yX5_drive : MethodName := ⟨RX5, "drive", "(III)V"⟩
abbrev cX5_tell : ByteArray := prog_7_method_3_code
def yX5_tell : MethodName := ⟨RX5, "tell", "(II)I"⟩
def RX6 : String := "ChipTimers$SlowClock"
def TX6 : u_T := fun k => match k with
  | 0 => ("ChipTimers$SlowClock", "period", "I", false)
  | 1 => ("ChipTimers$SlowClock", "counter", "I", false)
  | 2 => ("ChipTimers$SlowClock", "how", "I", false)
  | 3 => ("ChipTimers$SlowClock", "first", "I", false)
  | _ => ("ChipTimers$SlowClock", "second", "I", false)
def tyX6 : Nat → FieldType := fun k => match k with
  | 0 => .int
  | 1 => .int
  | 2 => .int
  | 3 => .int
  | _ => .int
abbrev wsX60 : List Cond := u_ws RX6 TX6 5
theorem nmX6 : ∀ a, a < 5 → ∀ b, b < 5 → a ≠ b → (TX6 a).2.1 ≠ (TX6 b).2.1 := by decide +kernel
theorem tyX6_ok : ∀ k, k < 5 → parseFieldDescriptor (TX6 k).2.2.1 = some (tyX6 k) := by decide +kernel
abbrev cX6_init : ByteArray := prog_8_method_1_code
def yX6_init : MethodName := ⟨RX6, "<init>", "()V"⟩
abbrev cX6_setUp : ByteArray := prog_8_method_2_code
def yX6_setUp : MethodName := ⟨RX6, "setUp", "(III)V"⟩
abbrev cX6_sample : ByteArray := prog_8_method_3_code
def yX6_sample : MethodName := ⟨RX6, "sample", "(II)V"⟩
abbrev cX6_twist : ByteArray := prog_8_method_4_code
def yX6_twist : MethodName := ⟨RX6, "twist", "(I)I"⟩
abbrev cX6_untwist : ByteArray := prog_8_method_5_code
def yX6_untwist : MethodName := ⟨RX6, "untwist", "(I)I"⟩
abbrev cX6_tell : ByteArray := prog_8_method_6_code
def yX6_tell : MethodName := ⟨RX6, "tell", "(I)I"⟩
def RX7 : String := "ChipTimers"
def TX7 : u_T := fun k => match k with
  | 0 => ("ChipTimers", "counters", "[LChipTimers$Counter;", true)
  | 1 => ("ChipTimers", "inputs", "[LChipTimers$Input;", true)
  | 2 => ("ChipTimers", "catchers", "[LChipTimers$Catcher;", true)
  | 3 => ("ChipTimers", "channels", "[LChipTimers$Channel;", true)
  | 4 => ("ChipTimers", "pairs", "[LChipTimers$Pair;", true)
  | 5 => ("ChipTimers", "pins", "LChipTimers$Pins;", true)
  | 6 => ("ChipTimers", "slowClock", "LChipTimers$SlowClock;", true)
  | 7 => ("ChipTimers", "tickCount", "I", false)
  | _ => ("ChipTimers", "braked", "Z", false)
def tyX7 : Nat → FieldType := fun k => match k with
  | 0 => .array (.object "ChipTimers$Counter")
  | 1 => .array (.object "ChipTimers$Input")
  | 2 => .array (.object "ChipTimers$Catcher")
  | 3 => .array (.object "ChipTimers$Channel")
  | 4 => .array (.object "ChipTimers$Pair")
  | 5 => .object "ChipTimers$Pins"
  | 6 => .object "ChipTimers$SlowClock"
  | 7 => .int
  | _ => .boolean
abbrev wsX70 : List Cond := u_ws RX7 TX7 9
theorem nmX7 : ∀ a, a < 9 → ∀ b, b < 9 → a ≠ b → (TX7 a).2.1 ≠ (TX7 b).2.1 := by decide +kernel
theorem tyX7_ok : ∀ k, k < 9 → parseFieldDescriptor (TX7 k).2.2.1 = some (tyX7 k) := by decide +kernel
abbrev cX7_init : ByteArray := prog_1_method_1_code
def yX7_init : MethodName := ⟨RX7, "<init>", "()V"⟩
abbrev cX7_counter : ByteArray := prog_1_method_2_code
def yX7_counter : MethodName := ⟨RX7, "counter", "(IIII)I"⟩
abbrev cX7_source : ByteArray := prog_1_method_3_code
def yX7_source : MethodName := ⟨RX7, "source", "(II)I"⟩
abbrev cX7_count : ByteArray := prog_1_method_4_code
def yX7_count : MethodName := ⟨RX7, "count", "(II)I"⟩
abbrev cX7_top : ByteArray := prog_1_method_5_code
def yX7_top : MethodName := ⟨RX7, "top", "(II)I"⟩
abbrev cX7_ofCounter : ByteArray := prog_1_method_6_code
def yX7_ofCounter : MethodName := ⟨RX7, "ofCounter", "(II)I"⟩
abbrev cX7_input : ByteArray := prog_1_method_7_code
def yX7_input : MethodName := ⟨RX7, "input", "(II)I"⟩
abbrev cX7_filter : ByteArray := prog_1_method_8_code
def yX7_filter : MethodName := ⟨RX7, "filter", "(II)I"⟩
abbrev cX7_ofInput : ByteArray := prog_1_method_9_code
def yX7_ofInput : MethodName := ⟨RX7, "ofInput", "(II)I"⟩
abbrev cX7_catcher : ByteArray := prog_1_method_10_code
def yX7_catcher : MethodName := ⟨RX7, "catcher", "(IIII)I"⟩
abbrev cX7_taken : ByteArray := prog_1_method_11_code
def yX7_taken : MethodName := ⟨RX7, "taken", "(I)I"⟩
abbrev cX7_ofCatcher : ByteArray := prog_1_method_12_code
def yX7_ofCatcher : MethodName := ⟨RX7, "ofCatcher", "(II)I"⟩
abbrev cX7_ticks : ByteArray := prog_1_method_13_code
def yX7_ticks : MethodName := ⟨RX7, "ticks", "(I)I"⟩
abbrev cX7_channel : ByteArray := prog_1_method_14_code
def yX7_channel : MethodName := ⟨RX7, "channel", "(IIII)I"⟩
abbrev cX7_outputs : ByteArray := prog_1_method_15_code
def yX7_outputs : MethodName := ⟨RX7, "outputs", "(IIII)I"⟩
abbrev cX7_ofChannel : ByteArray := prog_1_method_16_code
def yX7_ofChannel : MethodName := ⟨RX7, "ofChannel", "(II)I"⟩
abbrev cX7_pin : ByteArray := prog_1_method_17_code
def yX7_pin : MethodName := ⟨RX7, "pin", "(I)I"⟩
abbrev cX7_brake : ByteArray := prog_1_method_18_code
def yX7_brake : MethodName := ⟨RX7, "brake", "()I"⟩
abbrev cX7_arm : ByteArray := prog_1_method_19_code
def yX7_arm : MethodName := ⟨RX7, "arm", "()I"⟩
abbrev cX7_record : ByteArray := prog_1_method_20_code
def yX7_record : MethodName := ⟨RX7, "record", "(II)I"⟩
abbrev cX7_holds : ByteArray := prog_1_method_21_code
def yX7_holds : MethodName := ⟨RX7, "holds", "(II)I"⟩
abbrev cX7_read : ByteArray := prog_1_method_22_code
def yX7_read : MethodName := ⟨RX7, "read", "(II)I"⟩
abbrev cX7_wide : ByteArray := prog_1_method_23_code
def yX7_wide : MethodName := ⟨RX7, "wide", "(I)I"⟩
abbrev cX7_slow : ByteArray := prog_1_method_24_code
def yX7_slow : MethodName := ⟨RX7, "slow", "(III)I"⟩
abbrev cX7_crossed : ByteArray := prog_1_method_25_code
def yX7_crossed : MethodName := ⟨RX7, "crossed", "(I)I"⟩
abbrev cX7_many : ByteArray := prog_1_method_26_code
def yX7_many : MethodName := ⟨RX7, "many", "(I)I"⟩
abbrev cX7_runTick : ByteArray := prog_1_method_27_code
def yX7_runTick : MethodName := ⟨RX7, "runTick", "()V"⟩
abbrev cX7_hasPulse : ByteArray := prog_1_method_28_code
def yX7_hasPulse : MethodName := ⟨RX7, "hasPulse", "(I)Z"⟩
abbrev cX7_workOutPins : ByteArray := prog_1_method_29_code
def yX7_workOutPins : MethodName := ⟨RX7, "workOutPins", "()V"⟩
abbrev cX7_isWhole : ByteArray := prog_1_method_30_code
def yX7_isWhole : MethodName := ⟨RX7, "isWhole", "(I)Z"⟩
abbrev cX7_outputsOn : ByteArray := prog_1_method_31_code
def yX7_outputsOn : MethodName := ⟨RX7, "outputsOn", "()I"⟩
abbrev cX7_catchersReady : ByteArray := prog_1_method_32_code
def yX7_catchersReady : MethodName := ⟨RX7, "catchersReady", "()I"⟩
abbrev cX7_oversOfAll : ByteArray := prog_1_method_33_code
def yX7_oversOfAll : MethodName := ⟨RX7, "oversOfAll", "()I"⟩
abbrev cX7_isOneOf : ByteArray := prog_1_method_34_code
def yX7_isOneOf : MethodName := ⟨RX7, "isOneOf", "(II)Z"⟩
abbrev cX7_within : ByteArray := prog_1_method_35_code
def yX7_within : MethodName := ⟨RX7, "within", "(III)Z"⟩
abbrev cX7_isSetOfOutputs : ByteArray := prog_1_method_36_code
def yX7_isSetOfOutputs : MethodName := ⟨RX7, "isSetOfOutputs", "(I)Z"⟩
def RX8 : String := "ChipTimersModel"
def TX8 : u_T := fun k => match k with
  | 0 => ("ChipTimersModel", "tick", "I", false)
  | 1 => ("ChipTimersModel", "modeOf", "[I", true)
  | 2 => ("ChipTimersModel", "topOf", "[I", true)
  | 3 => ("ChipTimersModel", "shareOf", "[I", true)
  | 4 => ("ChipTimersModel", "sourceOf", "[I", true)
  | 5 => ("ChipTimersModel", "countOf", "[I", true)
  | 6 => ("ChipTimersModel", "phaseOf", "[I", true)
  | 7 => ("ChipTimersModel", "wayOf", "[I", true)
  | 8 => ("ChipTimersModel", "oversOf", "[I", true)
  | 9 => ("ChipTimersModel", "waitsOf", "[I", true)
  | 10 => ("ChipTimersModel", "hasStepped", "[Z", true)
  | 11 => ("ChipTimersModel", "wentOver", "[Z", true)
  | 12 => ("ChipTimersModel", "rawOf", "[I", true)
  | 13 => ("ChipTimersModel", "steadyOf", "[I", true)
  | 14 => ("ChipTimersModel", "filterOf", "[I", true)
  | 15 => ("ChipTimersModel", "runOf", "[I", true)
  | 16 => ("ChipTimersModel", "edgeOf", "[I", true)
  | 17 => ("ChipTimersModel", "catches", "[I", true)
  | 18 => ("ChipTimersModel", "edgesOf", "[I", true)
  | 19 => ("ChipTimersModel", "everyOf", "[I", true)
  | 20 => ("ChipTimersModel", "seenOf", "[I", true)
  | 21 => ("ChipTimersModel", "valueOf", "[I", true)
  | 22 => ("ChipTimersModel", "readyOf", "[I", true)
  | 23 => ("ChipTimersModel", "missedOf", "[I", true)
  | 24 => ("ChipTimersModel", "comparesTo", "[I", true)
  | 25 => ("ChipTimersModel", "kindOf", "[I", true)
  | 26 => ("ChipTimersModel", "markOf", "[I", true)
  | 27 => ("ChipTimersModel", "levelOf", "[I", true)
  | 28 => ("ChipTimersModel", "sinceOf", "[I", true)
  | 29 => ("ChipTimersModel", "deadOf", "[I", true)
  | 30 => ("ChipTimersModel", "polarityOf", "[I", true)
  | 31 => ("ChipTimersModel", "safeOf", "[I", true)
  | 32 => ("ChipTimersModel", "isBraked", "Z", false)
  | 33 => ("ChipTimersModel", "pinLevel", "[I", true)
  | 34 => ("ChipTimersModel", "entries", "I", false)
  | 35 => ("ChipTimersModel", "entryTick", "[I", true)
  | 36 => ("ChipTimersModel", "entryPin", "[I", true)
  | 37 => ("ChipTimersModel", "entryLevel", "[I", true)
  | 38 => ("ChipTimersModel", "isHolding", "[Z", true)
  | 39 => ("ChipTimersModel", "heldBy", "[I", true)
  | 40 => ("ChipTimersModel", "period", "I", false)
  | 41 => ("ChipTimersModel", "crossed", "I", false)
  | 42 => ("ChipTimersModel", "how", "I", false)
  | 43 => ("ChipTimersModel", "first", "I", false)
  | _ => ("ChipTimersModel", "second", "I", false)
def tyX8 : Nat → FieldType := fun k => match k with
  | 0 => .int
  | 1 => .array .int
  | 2 => .array .int
  | 3 => .array .int
  | 4 => .array .int
  | 5 => .array .int
  | 6 => .array .int
  | 7 => .array .int
  | 8 => .array .int
  | 9 => .array .int
  | 10 => .array .boolean
  | 11 => .array .boolean
  | 12 => .array .int
  | 13 => .array .int
  | 14 => .array .int
  | 15 => .array .int
  | 16 => .array .int
  | 17 => .array .int
  | 18 => .array .int
  | 19 => .array .int
  | 20 => .array .int
  | 21 => .array .int
  | 22 => .array .int
  | 23 => .array .int
  | 24 => .array .int
  | 25 => .array .int
  | 26 => .array .int
  | 27 => .array .int
  | 28 => .array .int
  | 29 => .array .int
  | 30 => .array .int
  | 31 => .array .int
  | 32 => .boolean
  | 33 => .array .int
  | 34 => .int
  | 35 => .array .int
  | 36 => .array .int
  | 37 => .array .int
  | 38 => .array .boolean
  | 39 => .array .int
  | 40 => .int
  | 41 => .int
  | 42 => .int
  | 43 => .int
  | _ => .int
abbrev wsX80 : List Cond := u_ws RX8 TX8 45
theorem nmX8 : ∀ a, a < 45 → ∀ b, b < 45 → a ≠ b → (TX8 a).2.1 ≠ (TX8 b).2.1 := by decide +kernel
theorem tyX8_ok : ∀ k, k < 45 → parseFieldDescriptor (TX8 k).2.2.1 = some (tyX8 k) := by decide +kernel
abbrev cX8_init : ByteArray := prog_10_method_1_code
def yX8_init : MethodName := ⟨RX8, "<init>", "()V"⟩
abbrev cX8_within : ByteArray := prog_10_method_2_code
def yX8_within : MethodName := ⟨RX8, "within", "(III)Z"⟩
abbrev cX8_isOne : ByteArray := prog_10_method_3_code
def yX8_isOne : MethodName := ⟨RX8, "isOne", "(I)Z"⟩
abbrev cX8_counter : ByteArray := prog_10_method_4_code
def yX8_counter : MethodName := ⟨RX8, "counter", "(IIII)I"⟩
abbrev cX8_source : ByteArray := prog_10_method_5_code
def yX8_source : MethodName := ⟨RX8, "source", "(II)I"⟩
abbrev cX8_count : ByteArray := prog_10_method_6_code
def yX8_count : MethodName := ⟨RX8, "count", "(II)I"⟩
abbrev cX8_top : ByteArray := prog_10_method_7_code
def yX8_top : MethodName := ⟨RX8, "top", "(II)I"⟩
abbrev cX8_ofCounter : ByteArray := prog_10_method_8_code
def yX8_ofCounter : MethodName := ⟨RX8, "ofCounter", "(II)I"⟩
abbrev cX8_hasPulse : ByteArray := prog_10_method_9_code
def yX8_hasPulse : MethodName := ⟨RX8, "hasPulse", "(I)Z"⟩
abbrev cX8_goesOver : ByteArray := prog_10_method_10_code
def yX8_goesOver : MethodName := ⟨RX8, "goesOver", "(I)V"⟩
abbrev cX8_takesTop : ByteArray := prog_10_method_11_code
def yX8_takesTop : MethodName := ⟨RX8, "takesTop", "(I)V"⟩
abbrev cX8_stepsUp : ByteArray := prog_10_method_12_code
def yX8_stepsUp : MethodName := ⟨RX8, "stepsUp", "(I)V"⟩
abbrev cX8_stepsDown : ByteArray := prog_10_method_13_code
def yX8_stepsDown : MethodName := ⟨RX8, "stepsDown", "(I)V"⟩
abbrev cX8_stepsBoth : ByteArray := prog_10_method_14_code
def yX8_stepsBoth : MethodName := ⟨RX8, "stepsBoth", "(I)V"⟩
abbrev cX8_steps : ByteArray := prog_10_method_15_code
def yX8_steps : MethodName := ⟨RX8, "steps", "(I)V"⟩
abbrev cX8_counters : ByteArray := prog_10_method_16_code
def yX8_counters : MethodName := ⟨RX8, "counters", "()V"⟩
abbrev cX8_input : ByteArray := prog_10_method_17_code
def yX8_input : MethodName := ⟨RX8, "input", "(II)I"⟩
abbrev cX8_filter : ByteArray := prog_10_method_18_code
def yX8_filter : MethodName := ⟨RX8, "filter", "(II)I"⟩
abbrev cX8_ofInput : ByteArray := prog_10_method_19_code
def yX8_ofInput : MethodName := ⟨RX8, "ofInput", "(II)I"⟩
abbrev cX8_inputs : ByteArray := prog_10_method_20_code
def yX8_inputs : MethodName := ⟨RX8, "inputs", "()V"⟩
abbrev cX8_catcher : ByteArray := prog_10_method_21_code
def yX8_catcher : MethodName := ⟨RX8, "catcher", "(IIII)I"⟩
abbrev cX8_taken : ByteArray := prog_10_method_22_code
def yX8_taken : MethodName := ⟨RX8, "taken", "(I)I"⟩
abbrev cX8_ofCatcher : ByteArray := prog_10_method_23_code
def yX8_ofCatcher : MethodName := ⟨RX8, "ofCatcher", "(II)I"⟩
abbrev cX8_catchers : ByteArray := prog_10_method_24_code
def yX8_catchers : MethodName := ⟨RX8, "catchers", "()V"⟩
abbrev cX8_oneTick : ByteArray := prog_10_method_25_code
def yX8_oneTick : MethodName := ⟨RX8, "oneTick", "()V"⟩
abbrev cX8_ticks : ByteArray := prog_10_method_26_code
def yX8_ticks : MethodName := ⟨RX8, "ticks", "(I)I"⟩
abbrev cX8_channel : ByteArray := prog_10_method_27_code
def yX8_channel : MethodName := ⟨RX8, "channel", "(IIII)I"⟩
abbrev cX8_outputs : ByteArray := prog_10_method_28_code
def yX8_outputs : MethodName := ⟨RX8, "outputs", "(IIII)I"⟩
abbrev cX8_levelThen : ByteArray := prog_10_method_29_code
def yX8_levelThen : MethodName := ⟨RX8, "levelThen", "(I)I"⟩
abbrev cX8_channels : ByteArray := prog_10_method_30_code
def yX8_channels : MethodName := ⟨RX8, "channels", "()V"⟩
abbrev cX8_isOn : ByteArray := prog_10_method_31_code
def yX8_isOn : MethodName := ⟨RX8, "isOn", "(II)Z"⟩
abbrev cX8_pinThen : ByteArray := prog_10_method_32_code
def yX8_pinThen : MethodName := ⟨RX8, "pinThen", "(II)I"⟩
abbrev cX8_enters : ByteArray := prog_10_method_33_code
def yX8_enters : MethodName := ⟨RX8, "enters", "(I)V"⟩
abbrev cX8_pins : ByteArray := prog_10_method_34_code
def yX8_pins : MethodName := ⟨RX8, "pins", "()V"⟩
abbrev cX8_onOf : ByteArray := prog_10_method_35_code
def yX8_onOf : MethodName := ⟨RX8, "onOf", "(I)I"⟩
abbrev cX8_ofChannel : ByteArray := prog_10_method_36_code
def yX8_ofChannel : MethodName := ⟨RX8, "ofChannel", "(II)I"⟩
abbrev cX8_pin : ByteArray := prog_10_method_37_code
def yX8_pin : MethodName := ⟨RX8, "pin", "(I)I"⟩
abbrev cX8_brakes : ByteArray := prog_10_method_38_code
def yX8_brakes : MethodName := ⟨RX8, "brakes", "(Z)I"⟩
abbrev cX8_brake : ByteArray := prog_10_method_39_code
def yX8_brake : MethodName := ⟨RX8, "brake", "()I"⟩
abbrev cX8_arm : ByteArray := prog_10_method_40_code
def yX8_arm : MethodName := ⟨RX8, "arm", "()I"⟩
abbrev cX8_record : ByteArray := prog_10_method_41_code
def yX8_record : MethodName := ⟨RX8, "record", "(II)I"⟩
abbrev cX8_isPair : ByteArray := prog_10_method_42_code
def yX8_isPair : MethodName := ⟨RX8, "isPair", "(I)Z"⟩
abbrev cX8_isWhole : ByteArray := prog_10_method_43_code
def yX8_isWhole : MethodName := ⟨RX8, "isWhole", "(I)Z"⟩
abbrev cX8_holds : ByteArray := prog_10_method_44_code
def yX8_holds : MethodName := ⟨RX8, "holds", "(II)I"⟩
abbrev cX8_read : ByteArray := prog_10_method_45_code
def yX8_read : MethodName := ⟨RX8, "read", "(II)I"⟩
abbrev cX8_wide : ByteArray := prog_10_method_46_code
def yX8_wide : MethodName := ⟨RX8, "wide", "(I)I"⟩
abbrev cX8_twisted : ByteArray := prog_10_method_47_code
def yX8_twisted : MethodName := ⟨RX8, "twisted", "(I)I"⟩
abbrev cX8_untwisted : ByteArray := prog_10_method_48_code
def yX8_untwisted : MethodName := ⟨RX8, "untwisted", "(I)I"⟩
abbrev cX8_sampleOf : ByteArray := prog_10_method_49_code
def yX8_sampleOf : MethodName := ⟨RX8, "sampleOf", "(II)I"⟩
abbrev cX8_slow : ByteArray := prog_10_method_50_code
def yX8_slow : MethodName := ⟨RX8, "slow", "(III)I"⟩
abbrev cX8_crossed : ByteArray := prog_10_method_51_code
def yX8_crossed : MethodName := ⟨RX8, "crossed", "(I)I"⟩
abbrev cX8_many : ByteArray := prog_10_method_52_code
def yX8_many : MethodName := ⟨RX8, "many", "(I)I"⟩
def RJ6 : String := "java/lang/Integer"
def TJ6 : u_T := fun k => match k with
  | _ => ("", "", "", false)
def tyJ6 : Nat → FieldType := fun k => match k with
  | _ => .int
abbrev wsJ60 : List Cond := u_ws RJ6 TJ6 0
theorem nmJ6 : ∀ a, a < 0 → ∀ b, b < 0 → a ≠ b → (TJ6 a).2.1 ≠ (TJ6 b).2.1 := by decide +kernel
theorem tyJ6_ok : ∀ k, k < 0 → parseFieldDescriptor (TJ6 k).2.2.1 = some (tyJ6 k) := by decide +kernel
abbrev cJ6_bitCount_0f7a4 : ByteArray := prog_11_method_49_code
def yJ6_bitCount_0f7a4 : MethodName := ⟨RJ6, "bitCount", "(I)I"⟩
def RJ9 : String := "java/lang/Math"
def TJ9 : u_T := fun k => match k with
  | _ => ("", "", "", false)
def tyJ9 : Nat → FieldType := fun k => match k with
  | _ => .int
abbrev wsJ90 : List Cond := u_ws RJ9 TJ9 0
theorem nmJ9 : ∀ a, a < 0 → ∀ b, b < 0 → a ≠ b → (TJ9 a).2.1 ≠ (TJ9 b).2.1 := by decide +kernel
theorem tyJ9_ok : ∀ k, k < 0 → parseFieldDescriptor (TJ9 k).2.2.1 = some (tyJ9 k) := by decide +kernel
abbrev cJ9_min_7cf53 : ByteArray := prog_12_method_69_code
def yJ9_min_7cf53 : MethodName := ⟨RJ9, "min", "(II)I"⟩
def RL : String := "ChipTimersLaw"
abbrev cL_law : ByteArray := code
def yL_law : MethodName := ⟨RL, "law", "([I)Z"⟩
def wsX0_init : List Cond := .code yX0_init cX0_init 1 none :: ([.methodLink RX0 3 objectInit, .instanceMethod objectInit, .code objectInit ⟨#[0xb1]⟩ 1 none, .fieldLink RX0 9 "ChipTimers$Catcher" "every" "I"] ++ wsX00)
def wsX0_setUp : List Cond := .code yX0_setUp cX0_setUp 4 none :: ([.fieldLink RX0 15 "ChipTimers$Catcher" "counter" "I", .fieldLink RX0 18 "ChipTimers$Catcher" "edges" "I", .fieldLink RX0 9 "ChipTimers$Catcher" "every" "I", .fieldLink RX0 21 "ChipTimers$Catcher" "seen" "I", .fieldLink RX0 24 "ChipTimers$Catcher" "value" "I", .fieldLink RX0 27 "ChipTimers$Catcher" "ready" "I", .fieldLink RX0 30 "ChipTimers$Catcher" "missed" "I"] ++ wsX00)
def wsX0_notice : List Cond := .code yX0_notice cX0_notice 3 none :: ([.fieldLink RX0 18 "ChipTimers$Catcher" "edges" "I", .fieldLink RX0 21 "ChipTimers$Catcher" "seen" "I", .fieldLink RX0 9 "ChipTimers$Catcher" "every" "I", .fieldLink RX0 30 "ChipTimers$Catcher" "missed" "I", .fieldLink RX0 27 "ChipTimers$Catcher" "ready" "I", .fieldLink RX0 24 "ChipTimers$Catcher" "value" "I"] ++ wsX00)
def wsX0_handOver : List Cond := .code yX0_handOver cX0_handOver 2 (some .int) :: ([.fieldLink RX0 27 "ChipTimers$Catcher" "ready" "I", .fieldLink RX0 24 "ChipTimers$Catcher" "value" "I"] ++ wsX00)
def wsX0_tell : List Cond := .code yX0_tell cX0_tell 2 (some .int) :: ([.fieldLink RX0 15 "ChipTimers$Catcher" "counter" "I", .fieldLink RX0 18 "ChipTimers$Catcher" "edges" "I", .fieldLink RX0 9 "ChipTimers$Catcher" "every" "I", .fieldLink RX0 21 "ChipTimers$Catcher" "seen" "I", .fieldLink RX0 24 "ChipTimers$Catcher" "value" "I", .fieldLink RX0 27 "ChipTimers$Catcher" "ready" "I", .fieldLink RX0 30 "ChipTimers$Catcher" "missed" "I"] ++ wsX00)
def wsX1_init : List Cond := .code yX1_init cX1_init 1 none :: ([.methodLink RX1 3 objectInit, .instanceMethod objectInit, .code objectInit ⟨#[0xb1]⟩ 1 none, .fieldLink RX1 9 "ChipTimers$Channel" "mode" "I"] ++ wsX10)
def wsX1_setUp : List Cond := .code yX1_setUp cX1_setUp 4 none :: ([.fieldLink RX1 15 "ChipTimers$Channel" "counter" "I", .fieldLink RX1 9 "ChipTimers$Channel" "mode" "I", .fieldLink RX1 18 "ChipTimers$Channel" "mark" "I", .fieldLink RX1 21 "ChipTimers$Channel" "level" "I", .fieldLink RX1 24 "ChipTimers$Channel" "since" "I"] ++ wsX10)
def wsX1_shapeOutputs : List Cond := .code yX1_shapeOutputs cX1_shapeOutputs 4 none :: ([.fieldLink RX1 27 "ChipTimers$Channel" "dead" "I", .fieldLink RX1 30 "ChipTimers$Channel" "polarity" "I", .fieldLink RX1 33 "ChipTimers$Channel" "safe" "I"] ++ wsX10)
def wsX1_nextLevel : List Cond := .code yX1_nextLevel cX1_nextLevel 3 (some .int) :: ([.fieldLink RX1 46 "ChipTimers$Counter" "stepped" "Z", .fieldLink RX1 52 "ChipTimers$Counter" "count" "I", .fieldLink RX1 18 "ChipTimers$Channel" "mark" "I", .fieldLink RX1 9 "ChipTimers$Channel" "mode" "I", .fieldLink RX1 21 "ChipTimers$Channel" "level" "I"] ++ wsX20 ++ wsX10)
def wsX1_follow : List Cond := .code yX1_follow cX1_follow 3 none :: ([.fieldLink RX1 21 "ChipTimers$Channel" "level" "I", .fieldLink RX1 24 "ChipTimers$Channel" "since" "I", .methodLink RX1 40 Lib.Math.min.name, .static Lib.Math.min.name, .initialized "java/lang/Math", .code Lib.Math.min.name Lib.Math.min.code 2 (some .int), .methodLink RX1 36 yX1_nextLevel, .instanceMethod yX1_nextLevel, .selects RX1 yX1_nextLevel yX1_nextLevel, .initialized RX1, .code yX1_nextLevel cX1_nextLevel 3 (some .int), .fieldLink RX1 46 "ChipTimers$Counter" "stepped" "Z", .fieldLink RX1 52 "ChipTimers$Counter" "count" "I", .fieldLink RX1 18 "ChipTimers$Channel" "mark" "I", .fieldLink RX1 9 "ChipTimers$Channel" "mode" "I"] ++ wsX10 ++ wsX20)
def wsX1_outputsOn : List Cond := .code yX1_outputsOn cX1_outputsOn 2 (some .int) :: ([.fieldLink RX1 9 "ChipTimers$Channel" "mode" "I", .fieldLink RX1 24 "ChipTimers$Channel" "since" "I", .fieldLink RX1 27 "ChipTimers$Channel" "dead" "I", .fieldLink RX1 21 "ChipTimers$Channel" "level" "I"] ++ wsX10)
def wsX1_pinLevel : List Cond := .code yX1_pinLevel cX1_pinLevel 4 (some .int) :: ([.fieldLink RX1 33 "ChipTimers$Channel" "safe" "I", .fieldLink RX1 30 "ChipTimers$Channel" "polarity" "I", .methodLink RX1 55 yX1_outputsOn, .instanceMethod yX1_outputsOn, .selects RX1 yX1_outputsOn yX1_outputsOn, .initialized RX1, .code yX1_outputsOn cX1_outputsOn 2 (some .int), .fieldLink RX1 9 "ChipTimers$Channel" "mode" "I", .fieldLink RX1 24 "ChipTimers$Channel" "since" "I", .fieldLink RX1 27 "ChipTimers$Channel" "dead" "I", .fieldLink RX1 21 "ChipTimers$Channel" "level" "I"] ++ wsX10)
def wsX1_tell : List Cond := .code yX1_tell cX1_tell 3 (some .int) :: ([.fieldLink RX1 15 "ChipTimers$Channel" "counter" "I", .fieldLink RX1 9 "ChipTimers$Channel" "mode" "I", .fieldLink RX1 18 "ChipTimers$Channel" "mark" "I", .fieldLink RX1 21 "ChipTimers$Channel" "level" "I", .fieldLink RX1 24 "ChipTimers$Channel" "since" "I", .fieldLink RX1 27 "ChipTimers$Channel" "dead" "I", .fieldLink RX1 30 "ChipTimers$Channel" "polarity" "I", .fieldLink RX1 33 "ChipTimers$Channel" "safe" "I", .methodLink RX1 55 yX1_outputsOn, .instanceMethod yX1_outputsOn, .selects RX1 yX1_outputsOn yX1_outputsOn, .initialized RX1, .code yX1_outputsOn cX1_outputsOn 2 (some .int)] ++ wsX10)
def wsX2_init : List Cond := .code yX2_init cX2_init 1 none :: ([.methodLink RX2 3 objectInit, .instanceMethod objectInit, .code objectInit ⟨#[0xb1]⟩ 1 none, .fieldLink RX2 9 "ChipTimers$Counter" "mode" "I", .fieldLink RX2 15 "ChipTimers$Counter" "top" "I", .fieldLink RX2 18 "ChipTimers$Counter" "share" "I", .fieldLink RX2 21 "ChipTimers$Counter" "source" "I", .fieldLink RX2 24 "ChipTimers$Counter" "way" "I", .fieldLink RX2 27 "ChipTimers$Counter" "waitingTop" "I"] ++ wsX20)
def wsX2_setUp : List Cond := .code yX2_setUp cX2_setUp 4 none :: ([.fieldLink RX2 9 "ChipTimers$Counter" "mode" "I", .fieldLink RX2 15 "ChipTimers$Counter" "top" "I", .fieldLink RX2 18 "ChipTimers$Counter" "share" "I", .fieldLink RX2 30 "ChipTimers$Counter" "count" "I", .fieldLink RX2 33 "ChipTimers$Counter" "phase" "I", .fieldLink RX2 24 "ChipTimers$Counter" "way" "I", .fieldLink RX2 36 "ChipTimers$Counter" "overs" "I", .fieldLink RX2 27 "ChipTimers$Counter" "waitingTop" "I"] ++ wsX20)
def wsX2_goOver : List Cond := .code yX2_goOver cX2_goOver 1 none :: ([.fieldLink RX2 39 "ChipTimers$Counter" "wentOver" "Z", .fieldLink RX2 36 "ChipTimers$Counter" "overs" "I"] ++ wsX20)
def wsX2_takeWaitingTop : List Cond := .code yX2_takeWaitingTop cX2_takeWaitingTop 1 none :: ([.fieldLink RX2 27 "ChipTimers$Counter" "waitingTop" "I", .fieldLink RX2 15 "ChipTimers$Counter" "top" "I"] ++ wsX20)
def wsX2_stepUp : List Cond := .code yX2_stepUp cX2_stepUp 1 none :: ([.fieldLink RX2 30 "ChipTimers$Counter" "count" "I", .fieldLink RX2 15 "ChipTimers$Counter" "top" "I", .methodLink RX2 58 yX2_goOver, .instanceMethod yX2_goOver, .selects RX2 yX2_goOver yX2_goOver, .initialized RX2, .code yX2_goOver cX2_goOver 1 none, .fieldLink RX2 39 "ChipTimers$Counter" "wentOver" "Z", .fieldLink RX2 36 "ChipTimers$Counter" "overs" "I", .methodLink RX2 61 yX2_takeWaitingTop, .instanceMethod yX2_takeWaitingTop, .selects RX2 yX2_takeWaitingTop yX2_takeWaitingTop, .code yX2_takeWaitingTop cX2_takeWaitingTop 1 none, .fieldLink RX2 27 "ChipTimers$Counter" "waitingTop" "I"] ++ wsX20)
def wsX2_stepDown : List Cond := .code yX2_stepDown cX2_stepDown 1 none :: ([.fieldLink RX2 30 "ChipTimers$Counter" "count" "I", .fieldLink RX2 15 "ChipTimers$Counter" "top" "I", .methodLink RX2 58 yX2_goOver, .instanceMethod yX2_goOver, .selects RX2 yX2_goOver yX2_goOver, .initialized RX2, .code yX2_goOver cX2_goOver 1 none, .fieldLink RX2 39 "ChipTimers$Counter" "wentOver" "Z", .fieldLink RX2 36 "ChipTimers$Counter" "overs" "I", .methodLink RX2 61 yX2_takeWaitingTop, .instanceMethod yX2_takeWaitingTop, .selects RX2 yX2_takeWaitingTop yX2_takeWaitingTop, .code yX2_takeWaitingTop cX2_takeWaitingTop 1 none, .fieldLink RX2 27 "ChipTimers$Counter" "waitingTop" "I"] ++ wsX20)
def wsX2_stepBothWays : List Cond := .code yX2_stepBothWays cX2_stepBothWays 1 none :: ([.fieldLink RX2 24 "ChipTimers$Counter" "way" "I", .fieldLink RX2 30 "ChipTimers$Counter" "count" "I", .fieldLink RX2 15 "ChipTimers$Counter" "top" "I", .methodLink RX2 58 yX2_goOver, .instanceMethod yX2_goOver, .selects RX2 yX2_goOver yX2_goOver, .initialized RX2, .code yX2_goOver cX2_goOver 1 none, .fieldLink RX2 39 "ChipTimers$Counter" "wentOver" "Z", .fieldLink RX2 36 "ChipTimers$Counter" "overs" "I", .methodLink RX2 61 yX2_takeWaitingTop, .instanceMethod yX2_takeWaitingTop, .selects RX2 yX2_takeWaitingTop yX2_takeWaitingTop, .code yX2_takeWaitingTop cX2_takeWaitingTop 1 none, .fieldLink RX2 27 "ChipTimers$Counter" "waitingTop" "I"] ++ wsX20)
def wsX2_step_r1 : List Cond := [Cond.fieldLink RX2 43 "ChipTimers$Counter" "stepped" "Z", Cond.fieldLink RX2 9 "ChipTimers$Counter" "mode" "I", Cond.methodLink RX2 49 yX2_stepUp, Cond.instanceMethod yX2_stepUp, Cond.selects RX2 yX2_stepUp yX2_stepUp, Cond.initialized RX2, Cond.code yX2_stepUp cX2_stepUp 1 none, Cond.fieldLink RX2 30 "ChipTimers$Counter" "count" "I", Cond.fieldLink RX2 15 "ChipTimers$Counter" "top" "I", Cond.methodLink RX2 58 yX2_goOver, Cond.instanceMethod yX2_goOver, Cond.selects RX2 yX2_goOver yX2_goOver, Cond.code yX2_goOver cX2_goOver 1 none, Cond.fieldLink RX2 39 "ChipTimers$Counter" "wentOver" "Z", Cond.fieldLink RX2 36 "ChipTimers$Counter" "overs" "I", Cond.methodLink RX2 61 yX2_takeWaitingTop, Cond.instanceMethod yX2_takeWaitingTop, Cond.selects RX2 yX2_takeWaitingTop yX2_takeWaitingTop, Cond.code yX2_takeWaitingTop cX2_takeWaitingTop 1 none, Cond.fieldLink RX2 27 "ChipTimers$Counter" "waitingTop" "I", Cond.methodLink RX2 52 yX2_stepDown, Cond.instanceMethod yX2_stepDown, Cond.selects RX2 yX2_stepDown yX2_stepDown, Cond.code yX2_stepDown cX2_stepDown 1 none]
def wsX2_step_r2 : List Cond := [Cond.methodLink RX2 55 yX2_stepBothWays, Cond.instanceMethod yX2_stepBothWays, Cond.selects RX2 yX2_stepBothWays yX2_stepBothWays, Cond.code yX2_stepBothWays cX2_stepBothWays 1 none, Cond.fieldLink RX2 24 "ChipTimers$Counter" "way" "I"]
def wsX2_step : List Cond := .code yX2_step cX2_step 1 none :: ((wsX2_step_r1 ++ wsX2_step_r2) ++ wsX20)
def wsX2_pass_r1 : List Cond := [Cond.fieldLink RX2 39 "ChipTimers$Counter" "wentOver" "Z", Cond.fieldLink RX2 43 "ChipTimers$Counter" "stepped" "Z", Cond.fieldLink RX2 33 "ChipTimers$Counter" "phase" "I", Cond.fieldLink RX2 18 "ChipTimers$Counter" "share" "I", Cond.methodLink RX2 46 yX2_step, Cond.instanceMethod yX2_step, Cond.selects RX2 yX2_step yX2_step, Cond.initialized RX2, Cond.code yX2_step cX2_step 1 none, Cond.fieldLink RX2 9 "ChipTimers$Counter" "mode" "I", Cond.methodLink RX2 49 yX2_stepUp, Cond.instanceMethod yX2_stepUp, Cond.selects RX2 yX2_stepUp yX2_stepUp, Cond.code yX2_stepUp cX2_stepUp 1 none, Cond.fieldLink RX2 30 "ChipTimers$Counter" "count" "I", Cond.fieldLink RX2 15 "ChipTimers$Counter" "top" "I", Cond.methodLink RX2 58 yX2_goOver, Cond.instanceMethod yX2_goOver, Cond.selects RX2 yX2_goOver yX2_goOver, Cond.code yX2_goOver cX2_goOver 1 none, Cond.fieldLink RX2 36 "ChipTimers$Counter" "overs" "I", Cond.methodLink RX2 61 yX2_takeWaitingTop, Cond.instanceMethod yX2_takeWaitingTop, Cond.selects RX2 yX2_takeWaitingTop yX2_takeWaitingTop]
def wsX2_pass_r2 : List Cond := [Cond.code yX2_takeWaitingTop cX2_takeWaitingTop 1 none, Cond.fieldLink RX2 27 "ChipTimers$Counter" "waitingTop" "I", Cond.methodLink RX2 52 yX2_stepDown, Cond.instanceMethod yX2_stepDown, Cond.selects RX2 yX2_stepDown yX2_stepDown, Cond.code yX2_stepDown cX2_stepDown 1 none, Cond.methodLink RX2 55 yX2_stepBothWays, Cond.instanceMethod yX2_stepBothWays, Cond.selects RX2 yX2_stepBothWays yX2_stepBothWays, Cond.code yX2_stepBothWays cX2_stepBothWays 1 none, Cond.fieldLink RX2 24 "ChipTimers$Counter" "way" "I"]
def wsX2_pass : List Cond := .code yX2_pass cX2_pass 2 none :: ((wsX2_pass_r1 ++ wsX2_pass_r2) ++ wsX20)
def wsX2_tell : List Cond := .code yX2_tell cX2_tell 2 (some .int) :: ([.fieldLink RX2 30 "ChipTimers$Counter" "count" "I", .fieldLink RX2 15 "ChipTimers$Counter" "top" "I", .fieldLink RX2 9 "ChipTimers$Counter" "mode" "I", .fieldLink RX2 18 "ChipTimers$Counter" "share" "I", .fieldLink RX2 21 "ChipTimers$Counter" "source" "I", .fieldLink RX2 33 "ChipTimers$Counter" "phase" "I", .fieldLink RX2 24 "ChipTimers$Counter" "way" "I", .fieldLink RX2 36 "ChipTimers$Counter" "overs" "I", .fieldLink RX2 27 "ChipTimers$Counter" "waitingTop" "I"] ++ wsX20)
def wsX3_init : List Cond := .code yX3_init cX3_init 1 none :: ([.methodLink RX3 3 objectInit, .instanceMethod objectInit, .code objectInit ⟨#[0xb1]⟩ 1 none, .fieldLink RX3 9 "ChipTimers$Input" "filter" "I"] ++ wsX30)
def wsX3_look : List Cond := .code yX3_look cX3_look 1 none :: ([.fieldLink RX3 15 "ChipTimers$Input" "edge" "I", .fieldLink RX3 18 "ChipTimers$Input" "raw" "I", .fieldLink RX3 21 "ChipTimers$Input" "steady" "I", .fieldLink RX3 24 "ChipTimers$Input" "run" "I", .fieldLink RX3 9 "ChipTimers$Input" "filter" "I"] ++ wsX30)
def wsX3_tell : List Cond := .code yX3_tell cX3_tell 2 (some .int) :: ([.fieldLink RX3 18 "ChipTimers$Input" "raw" "I", .fieldLink RX3 21 "ChipTimers$Input" "steady" "I", .fieldLink RX3 24 "ChipTimers$Input" "run" "I", .fieldLink RX3 9 "ChipTimers$Input" "filter" "I"] ++ wsX30)
def wsX4_init : List Cond := .code yX4_init cX4_init 1 none :: ([.methodLink RX4 3 objectInit, .instanceMethod objectInit, .code objectInit ⟨#[0xb1]⟩ 1 none, .fieldLink RX4 9 "ChipTimers$Pair" "held" "I"] ++ wsX40)
def wsX4_takeHigh : List Cond := .code yX4_takeHigh cX4_takeHigh 3 (some .int) :: ([.fieldLink RX4 15 "ChipTimers$Pair" "holding" "I", .fieldLink RX4 9 "ChipTimers$Pair" "held" "I"] ++ wsX40)
def wsX5_init : List Cond := .code yX5_init cX5_init 1 none :: ([.methodLink RX5 3 objectInit, .instanceMethod objectInit, .code objectInit ⟨#[0xb1]⟩ 1 none, .arrayClass .int, .fieldLink RX5 9 "ChipTimers$Pins" "levels" "[I", .fieldLink RX5 15 "ChipTimers$Pins" "entryTicks" "[I", .fieldLink RX5 18 "ChipTimers$Pins" "entryPins" "[I", .fieldLink RX5 21 "ChipTimers$Pins" "entryLevels" "[I"] ++ wsX50)
def wsX5_drive : List Cond := .code yX5_drive cX5_drive 4 none :: ([.fieldLink RX5 9 "ChipTimers$Pins" "levels" "[I", .fieldLink RX5 15 "ChipTimers$Pins" "entryTicks" "[I", .fieldLink RX5 24 "ChipTimers$Pins" "next" "I", .fieldLink RX5 18 "ChipTimers$Pins" "entryPins" "[I", .fieldLink RX5 21 "ChipTimers$Pins" "entryLevels" "[I", .fieldLink RX5 28 "ChipTimers$Pins" "entries" "I", .methodLink RX5 31 Lib.Math.min.name, .static Lib.Math.min.name, .initialized "java/lang/Math", .code Lib.Math.min.name Lib.Math.min.code 2 (some .int)] ++ wsX50)
def wsX7_within : List Cond := .code yX7_within cX7_within 3 (some .boolean) :: ([])
def wsX5_tell : List Cond := .code yX5_tell cX5_tell 4 (some .int) :: ([.fieldLink RX5 28 "ChipTimers$Pins" "entries" "I", .fieldLink RX5 24 "ChipTimers$Pins" "next" "I", .fieldLink RX5 15 "ChipTimers$Pins" "entryTicks" "[I", .fieldLink RX5 18 "ChipTimers$Pins" "entryPins" "[I", .fieldLink RX5 21 "ChipTimers$Pins" "entryLevels" "[I", .static yX7_within, .initialized RX7, .code yX7_within cX7_within 3 (some .boolean)] ++ wsX50)
def wsX6_init : List Cond := .code yX6_init cX6_init 1 none :: ([.methodLink RX6 3 objectInit, .instanceMethod objectInit, .code objectInit ⟨#[0xb1]⟩ 1 none, .fieldLink RX6 9 "ChipTimers$SlowClock" "period" "I", .fieldLink RX6 15 "ChipTimers$SlowClock" "how" "I"] ++ wsX60)
def wsX6_setUp : List Cond := .code yX6_setUp cX6_setUp 4 none :: ([.fieldLink RX6 9 "ChipTimers$SlowClock" "period" "I", .fieldLink RX6 18 "ChipTimers$SlowClock" "counter" "I", .fieldLink RX6 15 "ChipTimers$SlowClock" "how" "I", .fieldLink RX6 21 "ChipTimers$SlowClock" "first" "I", .fieldLink RX6 24 "ChipTimers$SlowClock" "second" "I"] ++ wsX60)
def wsX6_twist : List Cond := .code yX6_twist cX6_twist 1 (some .int) :: ([])
def wsX6_untwist : List Cond := .code yX6_untwist cX6_untwist 2 (some .int) :: ([])
def wsX6_sample : List Cond := .code yX6_sample cX6_sample 3 none :: ([.fieldLink RX6 21 "ChipTimers$SlowClock" "first" "I", .fieldLink RX6 24 "ChipTimers$SlowClock" "second" "I", .fieldLink RX6 15 "ChipTimers$SlowClock" "how" "I", .methodLink RX6 27 yX6_twist, .static yX6_twist, .initialized RX6, .code yX6_twist cX6_twist 1 (some .int), .methodLink RX6 31 yX6_untwist, .static yX6_untwist, .code yX6_untwist cX6_untwist 2 (some .int)] ++ wsX60)
def wsX6_tell : List Cond := .code yX6_tell cX6_tell 2 (some .int) :: ([.fieldLink RX6 21 "ChipTimers$SlowClock" "first" "I", .fieldLink RX6 24 "ChipTimers$SlowClock" "second" "I", .fieldLink RX6 9 "ChipTimers$SlowClock" "period" "I", .fieldLink RX6 18 "ChipTimers$SlowClock" "counter" "I", .fieldLink RX6 15 "ChipTimers$SlowClock" "how" "I"] ++ wsX60)
def wsX7_init_r1 : List Cond := [Cond.methodLink RX7 3 objectInit, Cond.instanceMethod objectInit, Cond.code objectInit ⟨#[0xb1]⟩ 1 none, Cond.classLink RX7 9 RX2, Cond.fieldLink RX7 11 "ChipTimers" "counters" "[LChipTimers$Counter;", Cond.classLink RX7 15 RX3, Cond.fieldLink RX7 17 "ChipTimers" "inputs" "[LChipTimers$Input;", Cond.classLink RX7 21 RX0, Cond.fieldLink RX7 23 "ChipTimers" "catchers" "[LChipTimers$Catcher;", Cond.classLink RX7 27 RX1, Cond.fieldLink RX7 29 "ChipTimers" "channels" "[LChipTimers$Channel;", Cond.classLink RX7 33 RX4, Cond.fieldLink RX7 35 "ChipTimers" "pairs" "[LChipTimers$Pair;", Cond.classLink RX7 39 RX5, Cond.instantiable RX5 6, Cond.initialized RX5, Cond.fieldLink RX7 42 "ChipTimers" "pins" "LChipTimers$Pins;", Cond.classLink RX7 46 RX6, Cond.instantiable RX6 5, Cond.initialized RX6, Cond.fieldLink RX7 49 "ChipTimers" "slowClock" "LChipTimers$SlowClock;", Cond.instantiable RX2 11, Cond.initialized RX2, Cond.instantiable RX3 5]
def wsX7_init_r2 : List Cond := [Cond.initialized RX3, Cond.instantiable RX0 7, Cond.initialized RX0, Cond.instantiable RX1 8, Cond.initialized RX1, Cond.instantiable RX4 2, Cond.initialized RX4, Cond.instanceMethod yX5_init, Cond.code yX5_init cX5_init 1 none, Cond.methodLink RX5 3 objectInit, Cond.arrayClass .int, Cond.fieldLink RX5 9 "ChipTimers$Pins" "levels" "[I", Cond.fieldLink RX5 15 "ChipTimers$Pins" "entryTicks" "[I", Cond.fieldLink RX5 18 "ChipTimers$Pins" "entryPins" "[I", Cond.fieldLink RX5 21 "ChipTimers$Pins" "entryLevels" "[I", Cond.instanceMethod yX6_init, Cond.code yX6_init cX6_init 1 none, Cond.methodLink RX6 3 objectInit, Cond.fieldLink RX6 9 "ChipTimers$SlowClock" "period" "I", Cond.fieldLink RX6 15 "ChipTimers$SlowClock" "how" "I", Cond.instanceMethod yX2_init, Cond.code yX2_init cX2_init 1 none, Cond.methodLink RX2 3 objectInit, Cond.fieldLink RX2 9 "ChipTimers$Counter" "mode" "I"]
def wsX7_init_r3 : List Cond := [Cond.fieldLink RX2 15 "ChipTimers$Counter" "top" "I", Cond.fieldLink RX2 18 "ChipTimers$Counter" "share" "I", Cond.fieldLink RX2 21 "ChipTimers$Counter" "source" "I", Cond.fieldLink RX2 24 "ChipTimers$Counter" "way" "I", Cond.fieldLink RX2 27 "ChipTimers$Counter" "waitingTop" "I", Cond.instanceMethod yX3_init, Cond.code yX3_init cX3_init 1 none, Cond.methodLink RX3 3 objectInit, Cond.fieldLink RX3 9 "ChipTimers$Input" "filter" "I", Cond.instanceMethod yX0_init, Cond.code yX0_init cX0_init 1 none, Cond.methodLink RX0 3 objectInit, Cond.fieldLink RX0 9 "ChipTimers$Catcher" "every" "I", Cond.instanceMethod yX1_init, Cond.code yX1_init cX1_init 1 none, Cond.methodLink RX1 3 objectInit, Cond.fieldLink RX1 9 "ChipTimers$Channel" "mode" "I", Cond.instanceMethod yX4_init, Cond.code yX4_init cX4_init 1 none, Cond.methodLink RX4 3 objectInit, Cond.fieldLink RX4 9 "ChipTimers$Pair" "held" "I"]
def wsX7_init : List Cond := .code yX7_init cX7_init 2 none :: ((wsX7_init_r1 ++ (wsX7_init_r2 ++ wsX7_init_r3)) ++ wsX70 ++ wsX50 ++ wsX60 ++ wsX20 ++ wsX30 ++ wsX00 ++ wsX10 ++ wsX40)
def wsX7_isOneOf : List Cond := .code yX7_isOneOf cX7_isOneOf 2 (some .boolean) :: ([])
def wsX7_counter : List Cond := .code yX7_counter cX7_counter 5 (some .int) :: ([.fieldLink RX7 11 "ChipTimers" "counters" "[LChipTimers$Counter;", .methodLink RX7 58 yX7_isOneOf, .static yX7_isOneOf, .initialized RX7, .code yX7_isOneOf cX7_isOneOf 2 (some .boolean), .methodLink RX7 62 yX7_within, .static yX7_within, .code yX7_within cX7_within 3 (some .boolean), .methodLink RX7 66 yX2_setUp, .instanceMethod yX2_setUp, .selects RX2 yX2_setUp yX2_setUp, .initialized RX2, .code yX2_setUp cX2_setUp 4 none, .fieldLink RX2 9 "ChipTimers$Counter" "mode" "I", .fieldLink RX2 15 "ChipTimers$Counter" "top" "I", .fieldLink RX2 18 "ChipTimers$Counter" "share" "I", .fieldLink RX2 30 "ChipTimers$Counter" "count" "I", .fieldLink RX2 33 "ChipTimers$Counter" "phase" "I", .fieldLink RX2 24 "ChipTimers$Counter" "way" "I", .fieldLink RX2 36 "ChipTimers$Counter" "overs" "I", .fieldLink RX2 27 "ChipTimers$Counter" "waitingTop" "I"] ++ wsX70 ++ wsX20)
def wsX7_source : List Cond := .code yX7_source cX7_source 4 (some .int) :: ([.fieldLink RX7 11 "ChipTimers" "counters" "[LChipTimers$Counter;", .fieldLink RX7 70 "ChipTimers$Counter" "source" "I", .methodLink RX7 58 yX7_isOneOf, .static yX7_isOneOf, .initialized RX7, .code yX7_isOneOf cX7_isOneOf 2 (some .boolean), .methodLink RX7 62 yX7_within, .static yX7_within, .code yX7_within cX7_within 3 (some .boolean)] ++ wsX70 ++ wsX20)
def wsX7_count : List Cond := .code yX7_count cX7_count 4 (some .int) :: ([.fieldLink RX7 11 "ChipTimers" "counters" "[LChipTimers$Counter;", .fieldLink RX7 74 "ChipTimers$Counter" "top" "I", .fieldLink RX7 77 "ChipTimers$Counter" "count" "I", .methodLink RX7 58 yX7_isOneOf, .static yX7_isOneOf, .initialized RX7, .code yX7_isOneOf cX7_isOneOf 2 (some .boolean), .methodLink RX7 62 yX7_within, .static yX7_within, .code yX7_within cX7_within 3 (some .boolean)] ++ wsX70 ++ wsX20)
def wsX7_top : List Cond := .code yX7_top cX7_top 3 (some .int) :: ([.fieldLink RX7 11 "ChipTimers" "counters" "[LChipTimers$Counter;", .fieldLink RX7 80 "ChipTimers$Counter" "waitingTop" "I", .fieldLink RX7 74 "ChipTimers$Counter" "top" "I", .methodLink RX7 58 yX7_isOneOf, .static yX7_isOneOf, .initialized RX7, .code yX7_isOneOf cX7_isOneOf 2 (some .boolean), .methodLink RX7 62 yX7_within, .static yX7_within, .code yX7_within cX7_within 3 (some .boolean)] ++ wsX70 ++ wsX20)
def wsX7_ofCounter : List Cond := .code yX7_ofCounter cX7_ofCounter 3 (some .int) :: ([.fieldLink RX7 11 "ChipTimers" "counters" "[LChipTimers$Counter;", .methodLink RX7 58 yX7_isOneOf, .static yX7_isOneOf, .initialized RX7, .code yX7_isOneOf cX7_isOneOf 2 (some .boolean), .methodLink RX7 83 yX2_tell, .instanceMethod yX2_tell, .selects RX2 yX2_tell yX2_tell, .initialized RX2, .code yX2_tell cX2_tell 2 (some .int), .fieldLink RX2 30 "ChipTimers$Counter" "count" "I", .fieldLink RX2 15 "ChipTimers$Counter" "top" "I", .fieldLink RX2 9 "ChipTimers$Counter" "mode" "I", .fieldLink RX2 18 "ChipTimers$Counter" "share" "I", .fieldLink RX2 21 "ChipTimers$Counter" "source" "I", .fieldLink RX2 33 "ChipTimers$Counter" "phase" "I", .fieldLink RX2 24 "ChipTimers$Counter" "way" "I", .fieldLink RX2 36 "ChipTimers$Counter" "overs" "I", .fieldLink RX2 27 "ChipTimers$Counter" "waitingTop" "I"] ++ wsX70 ++ wsX20)
def wsX7_input : List Cond := .code yX7_input cX7_input 4 (some .int) :: ([.fieldLink RX7 17 "ChipTimers" "inputs" "[LChipTimers$Input;", .fieldLink RX7 87 "ChipTimers$Input" "raw" "I", .methodLink RX7 58 yX7_isOneOf, .static yX7_isOneOf, .initialized RX7, .code yX7_isOneOf cX7_isOneOf 2 (some .boolean), .methodLink RX7 62 yX7_within, .static yX7_within, .code yX7_within cX7_within 3 (some .boolean)] ++ wsX70 ++ wsX30)
def wsX7_filter : List Cond := .code yX7_filter cX7_filter 4 (some .int) :: ([.fieldLink RX7 17 "ChipTimers" "inputs" "[LChipTimers$Input;", .fieldLink RX7 90 "ChipTimers$Input" "filter" "I", .methodLink RX7 58 yX7_isOneOf, .static yX7_isOneOf, .initialized RX7, .code yX7_isOneOf cX7_isOneOf 2 (some .boolean), .methodLink RX7 62 yX7_within, .static yX7_within, .code yX7_within cX7_within 3 (some .boolean)] ++ wsX70 ++ wsX30)
def wsX7_ofInput : List Cond := .code yX7_ofInput cX7_ofInput 3 (some .int) :: ([.fieldLink RX7 17 "ChipTimers" "inputs" "[LChipTimers$Input;", .methodLink RX7 58 yX7_isOneOf, .static yX7_isOneOf, .initialized RX7, .code yX7_isOneOf cX7_isOneOf 2 (some .boolean), .methodLink RX7 93 yX3_tell, .instanceMethod yX3_tell, .selects RX3 yX3_tell yX3_tell, .initialized RX3, .code yX3_tell cX3_tell 2 (some .int), .fieldLink RX3 18 "ChipTimers$Input" "raw" "I", .fieldLink RX3 21 "ChipTimers$Input" "steady" "I", .fieldLink RX3 24 "ChipTimers$Input" "run" "I", .fieldLink RX3 9 "ChipTimers$Input" "filter" "I"] ++ wsX70 ++ wsX30)
def wsX7_catcher : List Cond := .code yX7_catcher cX7_catcher 5 (some .int) :: ([.fieldLink RX7 23 "ChipTimers" "catchers" "[LChipTimers$Catcher;", .methodLink RX7 58 yX7_isOneOf, .static yX7_isOneOf, .initialized RX7, .code yX7_isOneOf cX7_isOneOf 2 (some .boolean), .methodLink RX7 62 yX7_within, .static yX7_within, .code yX7_within cX7_within 3 (some .boolean), .methodLink RX7 94 yX0_setUp, .instanceMethod yX0_setUp, .selects RX0 yX0_setUp yX0_setUp, .initialized RX0, .code yX0_setUp cX0_setUp 4 none, .fieldLink RX0 15 "ChipTimers$Catcher" "counter" "I", .fieldLink RX0 18 "ChipTimers$Catcher" "edges" "I", .fieldLink RX0 9 "ChipTimers$Catcher" "every" "I", .fieldLink RX0 21 "ChipTimers$Catcher" "seen" "I", .fieldLink RX0 24 "ChipTimers$Catcher" "value" "I", .fieldLink RX0 27 "ChipTimers$Catcher" "ready" "I", .fieldLink RX0 30 "ChipTimers$Catcher" "missed" "I"] ++ wsX70 ++ wsX00)
def wsX7_taken : List Cond := .code yX7_taken cX7_taken 2 (some .int) :: ([.fieldLink RX7 23 "ChipTimers" "catchers" "[LChipTimers$Catcher;", .methodLink RX7 58 yX7_isOneOf, .static yX7_isOneOf, .initialized RX7, .code yX7_isOneOf cX7_isOneOf 2 (some .boolean), .methodLink RX7 95 yX0_handOver, .instanceMethod yX0_handOver, .selects RX0 yX0_handOver yX0_handOver, .initialized RX0, .code yX0_handOver cX0_handOver 2 (some .int), .fieldLink RX0 27 "ChipTimers$Catcher" "ready" "I", .fieldLink RX0 24 "ChipTimers$Catcher" "value" "I"] ++ wsX70 ++ wsX00)
def wsX7_ofCatcher : List Cond := .code yX7_ofCatcher cX7_ofCatcher 3 (some .int) :: ([.fieldLink RX7 23 "ChipTimers" "catchers" "[LChipTimers$Catcher;", .methodLink RX7 58 yX7_isOneOf, .static yX7_isOneOf, .initialized RX7, .code yX7_isOneOf cX7_isOneOf 2 (some .boolean), .methodLink RX7 99 yX0_tell, .instanceMethod yX0_tell, .selects RX0 yX0_tell yX0_tell, .initialized RX0, .code yX0_tell cX0_tell 2 (some .int), .fieldLink RX0 15 "ChipTimers$Catcher" "counter" "I", .fieldLink RX0 18 "ChipTimers$Catcher" "edges" "I", .fieldLink RX0 9 "ChipTimers$Catcher" "every" "I", .fieldLink RX0 21 "ChipTimers$Catcher" "seen" "I", .fieldLink RX0 24 "ChipTimers$Catcher" "value" "I", .fieldLink RX0 27 "ChipTimers$Catcher" "ready" "I", .fieldLink RX0 30 "ChipTimers$Catcher" "missed" "I"] ++ wsX70 ++ wsX00)
def wsX7_hasPulse : List Cond := .code yX7_hasPulse cX7_hasPulse 2 (some .boolean) :: ([.fieldLink RX7 11 "ChipTimers" "counters" "[LChipTimers$Counter;", .fieldLink RX7 70 "ChipTimers$Counter" "source" "I", .fieldLink RX7 189 "ChipTimers$Counter" "wentOver" "Z", .fieldLink RX7 17 "ChipTimers" "inputs" "[LChipTimers$Input;", .fieldLink RX7 170 "ChipTimers$Input" "edge" "I"] ++ wsX70 ++ wsX20 ++ wsX30)
def wsX7_workOutPins_r1 : List Cond := [Cond.fieldLink RX7 42 "ChipTimers" "pins" "LChipTimers$Pins;", Cond.fieldLink RX7 29 "ChipTimers" "channels" "[LChipTimers$Channel;", Cond.fieldLink RX7 117 "ChipTimers" "braked" "Z", Cond.fieldLink RX7 103 "ChipTimers" "tickCount" "I", Cond.methodLink RX7 192 yX1_pinLevel, Cond.instanceMethod yX1_pinLevel, Cond.selects RX1 yX1_pinLevel yX1_pinLevel, Cond.initialized RX1, Cond.code yX1_pinLevel cX1_pinLevel 4 (some .int), Cond.fieldLink RX1 33 "ChipTimers$Channel" "safe" "I", Cond.fieldLink RX1 30 "ChipTimers$Channel" "polarity" "I", Cond.methodLink RX1 55 yX1_outputsOn, Cond.instanceMethod yX1_outputsOn, Cond.selects RX1 yX1_outputsOn yX1_outputsOn, Cond.code yX1_outputsOn cX1_outputsOn 2 (some .int), Cond.fieldLink RX1 9 "ChipTimers$Channel" "mode" "I", Cond.fieldLink RX1 24 "ChipTimers$Channel" "since" "I", Cond.fieldLink RX1 27 "ChipTimers$Channel" "dead" "I", Cond.fieldLink RX1 21 "ChipTimers$Channel" "level" "I", Cond.methodLink RX7 195 yX5_drive, Cond.instanceMethod yX5_drive, Cond.selects RX5 yX5_drive yX5_drive, Cond.initialized RX5, Cond.code yX5_drive cX5_drive 4 none]
def wsX7_workOutPins_r2 : List Cond := [Cond.fieldLink RX5 9 "ChipTimers$Pins" "levels" "[I", Cond.fieldLink RX5 15 "ChipTimers$Pins" "entryTicks" "[I", Cond.fieldLink RX5 24 "ChipTimers$Pins" "next" "I", Cond.fieldLink RX5 18 "ChipTimers$Pins" "entryPins" "[I", Cond.fieldLink RX5 21 "ChipTimers$Pins" "entryLevels" "[I", Cond.fieldLink RX5 28 "ChipTimers$Pins" "entries" "I", Cond.methodLink RX5 31 Lib.Math.min.name, Cond.static Lib.Math.min.name, Cond.initialized "java/lang/Math", Cond.code Lib.Math.min.name Lib.Math.min.code 2 (some .int)]
def wsX7_workOutPins : List Cond := .code yX7_workOutPins cX7_workOutPins 3 none :: ((wsX7_workOutPins_r1 ++ wsX7_workOutPins_r2) ++ wsX70 ++ wsX10 ++ wsX50)
def wsX7_runTick_r1 : List Cond := [Cond.fieldLink RX7 103 "ChipTimers" "tickCount" "I", Cond.fieldLink RX7 11 "ChipTimers" "counters" "[LChipTimers$Counter;", Cond.fieldLink RX7 49 "ChipTimers" "slowClock" "LChipTimers$SlowClock;", Cond.fieldLink RX7 157 "ChipTimers$SlowClock" "counter" "I", Cond.fieldLink RX7 77 "ChipTimers$Counter" "count" "I", Cond.fieldLink RX7 17 "ChipTimers" "inputs" "[LChipTimers$Input;", Cond.fieldLink RX7 23 "ChipTimers" "catchers" "[LChipTimers$Catcher;", Cond.fieldLink RX7 170 "ChipTimers$Input" "edge" "I", Cond.fieldLink RX7 173 "ChipTimers$Catcher" "counter" "I", Cond.fieldLink RX7 29 "ChipTimers" "channels" "[LChipTimers$Channel;", Cond.fieldLink RX7 178 "ChipTimers$Channel" "counter" "I", Cond.fieldLink RX7 183 "ChipTimers$SlowClock" "period" "I", Cond.methodLink RX7 160 yX3_look, Cond.instanceMethod yX3_look, Cond.selects RX3 yX3_look yX3_look, Cond.initialized RX3, Cond.code yX3_look cX3_look 1 none, Cond.fieldLink RX3 15 "ChipTimers$Input" "edge" "I", Cond.fieldLink RX3 18 "ChipTimers$Input" "raw" "I", Cond.fieldLink RX3 21 "ChipTimers$Input" "steady" "I", Cond.fieldLink RX3 24 "ChipTimers$Input" "run" "I", Cond.fieldLink RX3 9 "ChipTimers$Input" "filter" "I", Cond.methodLink RX7 163 yX7_hasPulse, Cond.instanceMethod yX7_hasPulse]
def wsX7_runTick_r2 : List Cond := [Cond.selects RX7 yX7_hasPulse yX7_hasPulse, Cond.initialized RX7, Cond.code yX7_hasPulse cX7_hasPulse 2 (some .boolean), Cond.fieldLink RX7 70 "ChipTimers$Counter" "source" "I", Cond.fieldLink RX7 189 "ChipTimers$Counter" "wentOver" "Z", Cond.methodLink RX7 166 yX2_pass, Cond.instanceMethod yX2_pass, Cond.selects RX2 yX2_pass yX2_pass, Cond.initialized RX2, Cond.code yX2_pass cX2_pass 2 none, Cond.fieldLink RX2 39 "ChipTimers$Counter" "wentOver" "Z", Cond.fieldLink RX2 43 "ChipTimers$Counter" "stepped" "Z", Cond.fieldLink RX2 33 "ChipTimers$Counter" "phase" "I", Cond.fieldLink RX2 18 "ChipTimers$Counter" "share" "I", Cond.methodLink RX2 46 yX2_step, Cond.instanceMethod yX2_step, Cond.selects RX2 yX2_step yX2_step, Cond.code yX2_step cX2_step 1 none, Cond.fieldLink RX2 9 "ChipTimers$Counter" "mode" "I", Cond.methodLink RX2 49 yX2_stepUp, Cond.instanceMethod yX2_stepUp, Cond.selects RX2 yX2_stepUp yX2_stepUp, Cond.code yX2_stepUp cX2_stepUp 1 none, Cond.fieldLink RX2 30 "ChipTimers$Counter" "count" "I"]
def wsX7_runTick_r3 : List Cond := [Cond.fieldLink RX2 15 "ChipTimers$Counter" "top" "I", Cond.methodLink RX2 58 yX2_goOver, Cond.instanceMethod yX2_goOver, Cond.selects RX2 yX2_goOver yX2_goOver, Cond.code yX2_goOver cX2_goOver 1 none, Cond.fieldLink RX2 36 "ChipTimers$Counter" "overs" "I", Cond.methodLink RX2 61 yX2_takeWaitingTop, Cond.instanceMethod yX2_takeWaitingTop, Cond.selects RX2 yX2_takeWaitingTop yX2_takeWaitingTop, Cond.code yX2_takeWaitingTop cX2_takeWaitingTop 1 none, Cond.fieldLink RX2 27 "ChipTimers$Counter" "waitingTop" "I", Cond.methodLink RX2 52 yX2_stepDown, Cond.instanceMethod yX2_stepDown, Cond.selects RX2 yX2_stepDown yX2_stepDown, Cond.code yX2_stepDown cX2_stepDown 1 none, Cond.methodLink RX2 55 yX2_stepBothWays, Cond.instanceMethod yX2_stepBothWays, Cond.selects RX2 yX2_stepBothWays yX2_stepBothWays, Cond.code yX2_stepBothWays cX2_stepBothWays 1 none, Cond.fieldLink RX2 24 "ChipTimers$Counter" "way" "I", Cond.methodLink RX7 174 yX0_notice, Cond.instanceMethod yX0_notice, Cond.selects RX0 yX0_notice yX0_notice, Cond.initialized RX0]
def wsX7_runTick_r4 : List Cond := [Cond.code yX0_notice cX0_notice 3 none, Cond.fieldLink RX0 18 "ChipTimers$Catcher" "edges" "I", Cond.fieldLink RX0 21 "ChipTimers$Catcher" "seen" "I", Cond.fieldLink RX0 9 "ChipTimers$Catcher" "every" "I", Cond.fieldLink RX0 30 "ChipTimers$Catcher" "missed" "I", Cond.fieldLink RX0 27 "ChipTimers$Catcher" "ready" "I", Cond.fieldLink RX0 24 "ChipTimers$Catcher" "value" "I", Cond.methodLink RX7 179 yX1_follow, Cond.instanceMethod yX1_follow, Cond.selects RX1 yX1_follow yX1_follow, Cond.initialized RX1, Cond.code yX1_follow cX1_follow 3 none, Cond.fieldLink RX1 21 "ChipTimers$Channel" "level" "I", Cond.fieldLink RX1 24 "ChipTimers$Channel" "since" "I", Cond.methodLink RX1 40 Lib.Math.min.name, Cond.static Lib.Math.min.name, Cond.initialized "java/lang/Math", Cond.code Lib.Math.min.name Lib.Math.min.code 2 (some .int), Cond.methodLink RX1 36 yX1_nextLevel, Cond.instanceMethod yX1_nextLevel, Cond.selects RX1 yX1_nextLevel yX1_nextLevel, Cond.code yX1_nextLevel cX1_nextLevel 3 (some .int), Cond.fieldLink RX1 46 "ChipTimers$Counter" "stepped" "Z", Cond.fieldLink RX1 52 "ChipTimers$Counter" "count" "I"]
def wsX7_runTick_r5 : List Cond := [Cond.fieldLink RX1 18 "ChipTimers$Channel" "mark" "I", Cond.fieldLink RX1 9 "ChipTimers$Channel" "mode" "I", Cond.methodLink RX7 186 yX6_sample, Cond.instanceMethod yX6_sample, Cond.selects RX6 yX6_sample yX6_sample, Cond.initialized RX6, Cond.code yX6_sample cX6_sample 3 none, Cond.fieldLink RX6 21 "ChipTimers$SlowClock" "first" "I", Cond.fieldLink RX6 24 "ChipTimers$SlowClock" "second" "I", Cond.fieldLink RX6 15 "ChipTimers$SlowClock" "how" "I", Cond.methodLink RX6 27 yX6_twist, Cond.static yX6_twist, Cond.code yX6_twist cX6_twist 1 (some .int), Cond.methodLink RX6 31 yX6_untwist, Cond.static yX6_untwist, Cond.code yX6_untwist cX6_untwist 2 (some .int), Cond.methodLink RX7 107 yX7_workOutPins, Cond.instanceMethod yX7_workOutPins, Cond.selects RX7 yX7_workOutPins yX7_workOutPins, Cond.code yX7_workOutPins cX7_workOutPins 3 none, Cond.fieldLink RX7 42 "ChipTimers" "pins" "LChipTimers$Pins;", Cond.fieldLink RX7 117 "ChipTimers" "braked" "Z", Cond.methodLink RX7 192 yX1_pinLevel, Cond.instanceMethod yX1_pinLevel]
def wsX7_runTick_r6 : List Cond := [Cond.selects RX1 yX1_pinLevel yX1_pinLevel, Cond.code yX1_pinLevel cX1_pinLevel 4 (some .int), Cond.fieldLink RX1 33 "ChipTimers$Channel" "safe" "I", Cond.fieldLink RX1 30 "ChipTimers$Channel" "polarity" "I", Cond.methodLink RX1 55 yX1_outputsOn, Cond.instanceMethod yX1_outputsOn, Cond.selects RX1 yX1_outputsOn yX1_outputsOn, Cond.code yX1_outputsOn cX1_outputsOn 2 (some .int), Cond.fieldLink RX1 27 "ChipTimers$Channel" "dead" "I", Cond.methodLink RX7 195 yX5_drive, Cond.instanceMethod yX5_drive, Cond.selects RX5 yX5_drive yX5_drive, Cond.initialized RX5, Cond.code yX5_drive cX5_drive 4 none, Cond.fieldLink RX5 9 "ChipTimers$Pins" "levels" "[I", Cond.fieldLink RX5 15 "ChipTimers$Pins" "entryTicks" "[I", Cond.fieldLink RX5 24 "ChipTimers$Pins" "next" "I", Cond.fieldLink RX5 18 "ChipTimers$Pins" "entryPins" "[I", Cond.fieldLink RX5 21 "ChipTimers$Pins" "entryLevels" "[I", Cond.fieldLink RX5 28 "ChipTimers$Pins" "entries" "I", Cond.methodLink RX5 31 Lib.Math.min.name]
def wsX7_runTick : List Cond := .code yX7_runTick cX7_runTick 3 none :: ((wsX7_runTick_r1 ++ (wsX7_runTick_r2 ++ (wsX7_runTick_r3 ++ (wsX7_runTick_r4 ++ (wsX7_runTick_r5 ++ wsX7_runTick_r6))))) ++ wsX70 ++ wsX60 ++ wsX20 ++ wsX30 ++ wsX00 ++ wsX10 ++ wsX50)
def wsX7_ticks_r1 : List Cond := [Cond.fieldLink RX7 103 "ChipTimers" "tickCount" "I", Cond.methodLink RX7 62 yX7_within, Cond.static yX7_within, Cond.initialized RX7, Cond.code yX7_within cX7_within 3 (some .boolean), Cond.methodLink RX7 100 yX7_runTick, Cond.instanceMethod yX7_runTick, Cond.selects RX7 yX7_runTick yX7_runTick, Cond.code yX7_runTick cX7_runTick 3 none, Cond.fieldLink RX7 11 "ChipTimers" "counters" "[LChipTimers$Counter;", Cond.fieldLink RX7 49 "ChipTimers" "slowClock" "LChipTimers$SlowClock;", Cond.fieldLink RX7 157 "ChipTimers$SlowClock" "counter" "I", Cond.fieldLink RX7 77 "ChipTimers$Counter" "count" "I", Cond.fieldLink RX7 17 "ChipTimers" "inputs" "[LChipTimers$Input;", Cond.fieldLink RX7 23 "ChipTimers" "catchers" "[LChipTimers$Catcher;", Cond.fieldLink RX7 170 "ChipTimers$Input" "edge" "I", Cond.fieldLink RX7 173 "ChipTimers$Catcher" "counter" "I", Cond.fieldLink RX7 29 "ChipTimers" "channels" "[LChipTimers$Channel;", Cond.fieldLink RX7 178 "ChipTimers$Channel" "counter" "I", Cond.fieldLink RX7 183 "ChipTimers$SlowClock" "period" "I", Cond.methodLink RX7 160 yX3_look, Cond.instanceMethod yX3_look, Cond.selects RX3 yX3_look yX3_look, Cond.initialized RX3]
def wsX7_ticks_r2 : List Cond := [Cond.code yX3_look cX3_look 1 none, Cond.fieldLink RX3 15 "ChipTimers$Input" "edge" "I", Cond.fieldLink RX3 18 "ChipTimers$Input" "raw" "I", Cond.fieldLink RX3 21 "ChipTimers$Input" "steady" "I", Cond.fieldLink RX3 24 "ChipTimers$Input" "run" "I", Cond.fieldLink RX3 9 "ChipTimers$Input" "filter" "I", Cond.methodLink RX7 163 yX7_hasPulse, Cond.instanceMethod yX7_hasPulse, Cond.selects RX7 yX7_hasPulse yX7_hasPulse, Cond.code yX7_hasPulse cX7_hasPulse 2 (some .boolean), Cond.fieldLink RX7 70 "ChipTimers$Counter" "source" "I", Cond.fieldLink RX7 189 "ChipTimers$Counter" "wentOver" "Z", Cond.methodLink RX7 166 yX2_pass, Cond.instanceMethod yX2_pass, Cond.selects RX2 yX2_pass yX2_pass, Cond.initialized RX2, Cond.code yX2_pass cX2_pass 2 none, Cond.fieldLink RX2 39 "ChipTimers$Counter" "wentOver" "Z", Cond.fieldLink RX2 43 "ChipTimers$Counter" "stepped" "Z", Cond.fieldLink RX2 33 "ChipTimers$Counter" "phase" "I", Cond.fieldLink RX2 18 "ChipTimers$Counter" "share" "I", Cond.methodLink RX2 46 yX2_step, Cond.instanceMethod yX2_step, Cond.selects RX2 yX2_step yX2_step]
def wsX7_ticks_r3 : List Cond := [Cond.code yX2_step cX2_step 1 none, Cond.fieldLink RX2 9 "ChipTimers$Counter" "mode" "I", Cond.methodLink RX2 49 yX2_stepUp, Cond.instanceMethod yX2_stepUp, Cond.selects RX2 yX2_stepUp yX2_stepUp, Cond.code yX2_stepUp cX2_stepUp 1 none, Cond.fieldLink RX2 30 "ChipTimers$Counter" "count" "I", Cond.fieldLink RX2 15 "ChipTimers$Counter" "top" "I", Cond.methodLink RX2 58 yX2_goOver, Cond.instanceMethod yX2_goOver, Cond.selects RX2 yX2_goOver yX2_goOver, Cond.code yX2_goOver cX2_goOver 1 none, Cond.fieldLink RX2 36 "ChipTimers$Counter" "overs" "I", Cond.methodLink RX2 61 yX2_takeWaitingTop, Cond.instanceMethod yX2_takeWaitingTop, Cond.selects RX2 yX2_takeWaitingTop yX2_takeWaitingTop, Cond.code yX2_takeWaitingTop cX2_takeWaitingTop 1 none, Cond.fieldLink RX2 27 "ChipTimers$Counter" "waitingTop" "I", Cond.methodLink RX2 52 yX2_stepDown, Cond.instanceMethod yX2_stepDown, Cond.selects RX2 yX2_stepDown yX2_stepDown, Cond.code yX2_stepDown cX2_stepDown 1 none, Cond.methodLink RX2 55 yX2_stepBothWays, Cond.instanceMethod yX2_stepBothWays]
def wsX7_ticks_r4 : List Cond := [Cond.selects RX2 yX2_stepBothWays yX2_stepBothWays, Cond.code yX2_stepBothWays cX2_stepBothWays 1 none, Cond.fieldLink RX2 24 "ChipTimers$Counter" "way" "I", Cond.methodLink RX7 174 yX0_notice, Cond.instanceMethod yX0_notice, Cond.selects RX0 yX0_notice yX0_notice, Cond.initialized RX0, Cond.code yX0_notice cX0_notice 3 none, Cond.fieldLink RX0 18 "ChipTimers$Catcher" "edges" "I", Cond.fieldLink RX0 21 "ChipTimers$Catcher" "seen" "I", Cond.fieldLink RX0 9 "ChipTimers$Catcher" "every" "I", Cond.fieldLink RX0 30 "ChipTimers$Catcher" "missed" "I", Cond.fieldLink RX0 27 "ChipTimers$Catcher" "ready" "I", Cond.fieldLink RX0 24 "ChipTimers$Catcher" "value" "I", Cond.methodLink RX7 179 yX1_follow, Cond.instanceMethod yX1_follow, Cond.selects RX1 yX1_follow yX1_follow, Cond.initialized RX1, Cond.code yX1_follow cX1_follow 3 none, Cond.fieldLink RX1 21 "ChipTimers$Channel" "level" "I", Cond.fieldLink RX1 24 "ChipTimers$Channel" "since" "I", Cond.methodLink RX1 40 Lib.Math.min.name, Cond.static Lib.Math.min.name, Cond.initialized "java/lang/Math"]
def wsX7_ticks_r5 : List Cond := [Cond.code Lib.Math.min.name Lib.Math.min.code 2 (some .int), Cond.methodLink RX1 36 yX1_nextLevel, Cond.instanceMethod yX1_nextLevel, Cond.selects RX1 yX1_nextLevel yX1_nextLevel, Cond.code yX1_nextLevel cX1_nextLevel 3 (some .int), Cond.fieldLink RX1 46 "ChipTimers$Counter" "stepped" "Z", Cond.fieldLink RX1 52 "ChipTimers$Counter" "count" "I", Cond.fieldLink RX1 18 "ChipTimers$Channel" "mark" "I", Cond.fieldLink RX1 9 "ChipTimers$Channel" "mode" "I", Cond.methodLink RX7 186 yX6_sample, Cond.instanceMethod yX6_sample, Cond.selects RX6 yX6_sample yX6_sample, Cond.initialized RX6, Cond.code yX6_sample cX6_sample 3 none, Cond.fieldLink RX6 21 "ChipTimers$SlowClock" "first" "I", Cond.fieldLink RX6 24 "ChipTimers$SlowClock" "second" "I", Cond.fieldLink RX6 15 "ChipTimers$SlowClock" "how" "I", Cond.methodLink RX6 27 yX6_twist, Cond.static yX6_twist, Cond.code yX6_twist cX6_twist 1 (some .int), Cond.methodLink RX6 31 yX6_untwist, Cond.static yX6_untwist, Cond.code yX6_untwist cX6_untwist 2 (some .int), Cond.methodLink RX7 107 yX7_workOutPins]
def wsX7_ticks_r6 : List Cond := [Cond.instanceMethod yX7_workOutPins, Cond.selects RX7 yX7_workOutPins yX7_workOutPins, Cond.code yX7_workOutPins cX7_workOutPins 3 none, Cond.fieldLink RX7 42 "ChipTimers" "pins" "LChipTimers$Pins;", Cond.fieldLink RX7 117 "ChipTimers" "braked" "Z", Cond.methodLink RX7 192 yX1_pinLevel, Cond.instanceMethod yX1_pinLevel, Cond.selects RX1 yX1_pinLevel yX1_pinLevel, Cond.code yX1_pinLevel cX1_pinLevel 4 (some .int), Cond.fieldLink RX1 33 "ChipTimers$Channel" "safe" "I", Cond.fieldLink RX1 30 "ChipTimers$Channel" "polarity" "I", Cond.methodLink RX1 55 yX1_outputsOn, Cond.instanceMethod yX1_outputsOn, Cond.selects RX1 yX1_outputsOn yX1_outputsOn, Cond.code yX1_outputsOn cX1_outputsOn 2 (some .int), Cond.fieldLink RX1 27 "ChipTimers$Channel" "dead" "I", Cond.methodLink RX7 195 yX5_drive, Cond.instanceMethod yX5_drive, Cond.selects RX5 yX5_drive yX5_drive, Cond.initialized RX5, Cond.code yX5_drive cX5_drive 4 none, Cond.fieldLink RX5 9 "ChipTimers$Pins" "levels" "[I", Cond.fieldLink RX5 15 "ChipTimers$Pins" "entryTicks" "[I", Cond.fieldLink RX5 24 "ChipTimers$Pins" "next" "I"]
def wsX7_ticks_r7 : List Cond := [Cond.fieldLink RX5 18 "ChipTimers$Pins" "entryPins" "[I", Cond.fieldLink RX5 21 "ChipTimers$Pins" "entryLevels" "[I", Cond.fieldLink RX5 28 "ChipTimers$Pins" "entries" "I", Cond.methodLink RX5 31 Lib.Math.min.name]
def wsX7_ticks : List Cond := .code yX7_ticks cX7_ticks 3 (some .int) :: ((wsX7_ticks_r1 ++ (wsX7_ticks_r2 ++ (wsX7_ticks_r3 ++ (wsX7_ticks_r4 ++ (wsX7_ticks_r5 ++ (wsX7_ticks_r6 ++ wsX7_ticks_r7)))))) ++ wsX70 ++ wsX60 ++ wsX20 ++ wsX30 ++ wsX00 ++ wsX10 ++ wsX50)
def wsX7_channel_r1 : List Cond := [Cond.fieldLink RX7 29 "ChipTimers" "channels" "[LChipTimers$Channel;", Cond.methodLink RX7 58 yX7_isOneOf, Cond.static yX7_isOneOf, Cond.initialized RX7, Cond.code yX7_isOneOf cX7_isOneOf 2 (some .boolean), Cond.methodLink RX7 62 yX7_within, Cond.static yX7_within, Cond.code yX7_within cX7_within 3 (some .boolean), Cond.methodLink RX7 106 yX1_setUp, Cond.instanceMethod yX1_setUp, Cond.selects RX1 yX1_setUp yX1_setUp, Cond.initialized RX1, Cond.code yX1_setUp cX1_setUp 4 none, Cond.fieldLink RX1 15 "ChipTimers$Channel" "counter" "I", Cond.fieldLink RX1 9 "ChipTimers$Channel" "mode" "I", Cond.fieldLink RX1 18 "ChipTimers$Channel" "mark" "I", Cond.fieldLink RX1 21 "ChipTimers$Channel" "level" "I", Cond.fieldLink RX1 24 "ChipTimers$Channel" "since" "I", Cond.methodLink RX7 107 yX7_workOutPins, Cond.instanceMethod yX7_workOutPins, Cond.selects RX7 yX7_workOutPins yX7_workOutPins, Cond.code yX7_workOutPins cX7_workOutPins 3 none, Cond.fieldLink RX7 42 "ChipTimers" "pins" "LChipTimers$Pins;", Cond.fieldLink RX7 117 "ChipTimers" "braked" "Z"]
def wsX7_channel_r2 : List Cond := [Cond.fieldLink RX7 103 "ChipTimers" "tickCount" "I", Cond.methodLink RX7 192 yX1_pinLevel, Cond.instanceMethod yX1_pinLevel, Cond.selects RX1 yX1_pinLevel yX1_pinLevel, Cond.code yX1_pinLevel cX1_pinLevel 4 (some .int), Cond.fieldLink RX1 33 "ChipTimers$Channel" "safe" "I", Cond.fieldLink RX1 30 "ChipTimers$Channel" "polarity" "I", Cond.methodLink RX1 55 yX1_outputsOn, Cond.instanceMethod yX1_outputsOn, Cond.selects RX1 yX1_outputsOn yX1_outputsOn, Cond.code yX1_outputsOn cX1_outputsOn 2 (some .int), Cond.fieldLink RX1 27 "ChipTimers$Channel" "dead" "I", Cond.methodLink RX7 195 yX5_drive, Cond.instanceMethod yX5_drive, Cond.selects RX5 yX5_drive yX5_drive, Cond.initialized RX5, Cond.code yX5_drive cX5_drive 4 none, Cond.fieldLink RX5 9 "ChipTimers$Pins" "levels" "[I", Cond.fieldLink RX5 15 "ChipTimers$Pins" "entryTicks" "[I", Cond.fieldLink RX5 24 "ChipTimers$Pins" "next" "I", Cond.fieldLink RX5 18 "ChipTimers$Pins" "entryPins" "[I", Cond.fieldLink RX5 21 "ChipTimers$Pins" "entryLevels" "[I", Cond.fieldLink RX5 28 "ChipTimers$Pins" "entries" "I", Cond.methodLink RX5 31 Lib.Math.min.name]
def wsX7_channel_r3 : List Cond := [Cond.static Lib.Math.min.name, Cond.initialized "java/lang/Math", Cond.code Lib.Math.min.name Lib.Math.min.code 2 (some .int)]
def wsX7_channel : List Cond := .code yX7_channel cX7_channel 5 (some .int) :: ((wsX7_channel_r1 ++ (wsX7_channel_r2 ++ wsX7_channel_r3)) ++ wsX70 ++ wsX10 ++ wsX50)
def wsX7_isSetOfOutputs : List Cond := .code yX7_isSetOfOutputs cX7_isSetOfOutputs 1 (some .boolean) :: ([.methodLink RX7 62 yX7_within, .static yX7_within, .initialized RX7, .code yX7_within cX7_within 3 (some .boolean)])
def wsX7_outputs_r1 : List Cond := [Cond.fieldLink RX7 29 "ChipTimers" "channels" "[LChipTimers$Channel;", Cond.methodLink RX7 58 yX7_isOneOf, Cond.static yX7_isOneOf, Cond.initialized RX7, Cond.code yX7_isOneOf cX7_isOneOf 2 (some .boolean), Cond.methodLink RX7 62 yX7_within, Cond.static yX7_within, Cond.code yX7_within cX7_within 3 (some .boolean), Cond.methodLink RX7 110 yX7_isSetOfOutputs, Cond.static yX7_isSetOfOutputs, Cond.code yX7_isSetOfOutputs cX7_isSetOfOutputs 1 (some .boolean), Cond.methodLink RX7 114 yX1_shapeOutputs, Cond.instanceMethod yX1_shapeOutputs, Cond.selects RX1 yX1_shapeOutputs yX1_shapeOutputs, Cond.initialized RX1, Cond.code yX1_shapeOutputs cX1_shapeOutputs 4 none, Cond.fieldLink RX1 27 "ChipTimers$Channel" "dead" "I", Cond.fieldLink RX1 30 "ChipTimers$Channel" "polarity" "I", Cond.fieldLink RX1 33 "ChipTimers$Channel" "safe" "I", Cond.methodLink RX7 107 yX7_workOutPins, Cond.instanceMethod yX7_workOutPins, Cond.selects RX7 yX7_workOutPins yX7_workOutPins, Cond.code yX7_workOutPins cX7_workOutPins 3 none, Cond.fieldLink RX7 42 "ChipTimers" "pins" "LChipTimers$Pins;"]
def wsX7_outputs_r2 : List Cond := [Cond.fieldLink RX7 117 "ChipTimers" "braked" "Z", Cond.fieldLink RX7 103 "ChipTimers" "tickCount" "I", Cond.methodLink RX7 192 yX1_pinLevel, Cond.instanceMethod yX1_pinLevel, Cond.selects RX1 yX1_pinLevel yX1_pinLevel, Cond.code yX1_pinLevel cX1_pinLevel 4 (some .int), Cond.methodLink RX1 55 yX1_outputsOn, Cond.instanceMethod yX1_outputsOn, Cond.selects RX1 yX1_outputsOn yX1_outputsOn, Cond.code yX1_outputsOn cX1_outputsOn 2 (some .int), Cond.fieldLink RX1 9 "ChipTimers$Channel" "mode" "I", Cond.fieldLink RX1 24 "ChipTimers$Channel" "since" "I", Cond.fieldLink RX1 21 "ChipTimers$Channel" "level" "I", Cond.methodLink RX7 195 yX5_drive, Cond.instanceMethod yX5_drive, Cond.selects RX5 yX5_drive yX5_drive, Cond.initialized RX5, Cond.code yX5_drive cX5_drive 4 none, Cond.fieldLink RX5 9 "ChipTimers$Pins" "levels" "[I", Cond.fieldLink RX5 15 "ChipTimers$Pins" "entryTicks" "[I", Cond.fieldLink RX5 24 "ChipTimers$Pins" "next" "I", Cond.fieldLink RX5 18 "ChipTimers$Pins" "entryPins" "[I", Cond.fieldLink RX5 21 "ChipTimers$Pins" "entryLevels" "[I", Cond.fieldLink RX5 28 "ChipTimers$Pins" "entries" "I"]
def wsX7_outputs_r3 : List Cond := [Cond.methodLink RX5 31 Lib.Math.min.name, Cond.static Lib.Math.min.name, Cond.initialized "java/lang/Math", Cond.code Lib.Math.min.name Lib.Math.min.code 2 (some .int)]
def wsX7_outputs : List Cond := .code yX7_outputs cX7_outputs 5 (some .int) :: ((wsX7_outputs_r1 ++ (wsX7_outputs_r2 ++ wsX7_outputs_r3)) ++ wsX70 ++ wsX10 ++ wsX50)
def wsX7_ofChannel : List Cond := .code yX7_ofChannel cX7_ofChannel 3 (some .int) :: ([.fieldLink RX7 29 "ChipTimers" "channels" "[LChipTimers$Channel;", .fieldLink RX7 117 "ChipTimers" "braked" "Z", .methodLink RX7 58 yX7_isOneOf, .static yX7_isOneOf, .initialized RX7, .code yX7_isOneOf cX7_isOneOf 2 (some .boolean), .methodLink RX7 121 yX1_tell, .instanceMethod yX1_tell, .selects RX1 yX1_tell yX1_tell, .initialized RX1, .code yX1_tell cX1_tell 3 (some .int), .fieldLink RX1 15 "ChipTimers$Channel" "counter" "I", .fieldLink RX1 9 "ChipTimers$Channel" "mode" "I", .fieldLink RX1 18 "ChipTimers$Channel" "mark" "I", .fieldLink RX1 21 "ChipTimers$Channel" "level" "I", .fieldLink RX1 24 "ChipTimers$Channel" "since" "I", .fieldLink RX1 27 "ChipTimers$Channel" "dead" "I", .fieldLink RX1 30 "ChipTimers$Channel" "polarity" "I", .fieldLink RX1 33 "ChipTimers$Channel" "safe" "I", .methodLink RX1 55 yX1_outputsOn, .instanceMethod yX1_outputsOn, .selects RX1 yX1_outputsOn yX1_outputsOn, .code yX1_outputsOn cX1_outputsOn 2 (some .int)] ++ wsX70 ++ wsX10)
def wsX7_pin : List Cond := .code yX7_pin cX7_pin 2 (some .int) :: ([.fieldLink RX7 42 "ChipTimers" "pins" "LChipTimers$Pins;", .fieldLink RX7 124 "ChipTimers$Pins" "levels" "[I", .methodLink RX7 58 yX7_isOneOf, .static yX7_isOneOf, .initialized RX7, .code yX7_isOneOf cX7_isOneOf 2 (some .boolean)] ++ wsX70 ++ wsX50)
def wsX7_brake_r1 : List Cond := [Cond.fieldLink RX7 117 "ChipTimers" "braked" "Z", Cond.methodLink RX7 107 yX7_workOutPins, Cond.instanceMethod yX7_workOutPins, Cond.selects RX7 yX7_workOutPins yX7_workOutPins, Cond.initialized RX7, Cond.code yX7_workOutPins cX7_workOutPins 3 none, Cond.fieldLink RX7 42 "ChipTimers" "pins" "LChipTimers$Pins;", Cond.fieldLink RX7 29 "ChipTimers" "channels" "[LChipTimers$Channel;", Cond.fieldLink RX7 103 "ChipTimers" "tickCount" "I", Cond.methodLink RX7 192 yX1_pinLevel, Cond.instanceMethod yX1_pinLevel, Cond.selects RX1 yX1_pinLevel yX1_pinLevel, Cond.initialized RX1, Cond.code yX1_pinLevel cX1_pinLevel 4 (some .int), Cond.fieldLink RX1 33 "ChipTimers$Channel" "safe" "I", Cond.fieldLink RX1 30 "ChipTimers$Channel" "polarity" "I", Cond.methodLink RX1 55 yX1_outputsOn, Cond.instanceMethod yX1_outputsOn, Cond.selects RX1 yX1_outputsOn yX1_outputsOn, Cond.code yX1_outputsOn cX1_outputsOn 2 (some .int), Cond.fieldLink RX1 9 "ChipTimers$Channel" "mode" "I", Cond.fieldLink RX1 24 "ChipTimers$Channel" "since" "I", Cond.fieldLink RX1 27 "ChipTimers$Channel" "dead" "I", Cond.fieldLink RX1 21 "ChipTimers$Channel" "level" "I"]
def wsX7_brake_r2 : List Cond := [Cond.methodLink RX7 195 yX5_drive, Cond.instanceMethod yX5_drive, Cond.selects RX5 yX5_drive yX5_drive, Cond.initialized RX5, Cond.code yX5_drive cX5_drive 4 none, Cond.fieldLink RX5 9 "ChipTimers$Pins" "levels" "[I", Cond.fieldLink RX5 15 "ChipTimers$Pins" "entryTicks" "[I", Cond.fieldLink RX5 24 "ChipTimers$Pins" "next" "I", Cond.fieldLink RX5 18 "ChipTimers$Pins" "entryPins" "[I", Cond.fieldLink RX5 21 "ChipTimers$Pins" "entryLevels" "[I", Cond.fieldLink RX5 28 "ChipTimers$Pins" "entries" "I", Cond.methodLink RX5 31 Lib.Math.min.name, Cond.static Lib.Math.min.name, Cond.initialized "java/lang/Math", Cond.code Lib.Math.min.name Lib.Math.min.code 2 (some .int)]
def wsX7_brake : List Cond := .code yX7_brake cX7_brake 2 (some .int) :: ((wsX7_brake_r1 ++ wsX7_brake_r2) ++ wsX70 ++ wsX10 ++ wsX50)
def wsX7_arm_r1 : List Cond := [Cond.fieldLink RX7 117 "ChipTimers" "braked" "Z", Cond.methodLink RX7 107 yX7_workOutPins, Cond.instanceMethod yX7_workOutPins, Cond.selects RX7 yX7_workOutPins yX7_workOutPins, Cond.initialized RX7, Cond.code yX7_workOutPins cX7_workOutPins 3 none, Cond.fieldLink RX7 42 "ChipTimers" "pins" "LChipTimers$Pins;", Cond.fieldLink RX7 29 "ChipTimers" "channels" "[LChipTimers$Channel;", Cond.fieldLink RX7 103 "ChipTimers" "tickCount" "I", Cond.methodLink RX7 192 yX1_pinLevel, Cond.instanceMethod yX1_pinLevel, Cond.selects RX1 yX1_pinLevel yX1_pinLevel, Cond.initialized RX1, Cond.code yX1_pinLevel cX1_pinLevel 4 (some .int), Cond.fieldLink RX1 33 "ChipTimers$Channel" "safe" "I", Cond.fieldLink RX1 30 "ChipTimers$Channel" "polarity" "I", Cond.methodLink RX1 55 yX1_outputsOn, Cond.instanceMethod yX1_outputsOn, Cond.selects RX1 yX1_outputsOn yX1_outputsOn, Cond.code yX1_outputsOn cX1_outputsOn 2 (some .int), Cond.fieldLink RX1 9 "ChipTimers$Channel" "mode" "I", Cond.fieldLink RX1 24 "ChipTimers$Channel" "since" "I", Cond.fieldLink RX1 27 "ChipTimers$Channel" "dead" "I", Cond.fieldLink RX1 21 "ChipTimers$Channel" "level" "I"]
def wsX7_arm_r2 : List Cond := [Cond.methodLink RX7 195 yX5_drive, Cond.instanceMethod yX5_drive, Cond.selects RX5 yX5_drive yX5_drive, Cond.initialized RX5, Cond.code yX5_drive cX5_drive 4 none, Cond.fieldLink RX5 9 "ChipTimers$Pins" "levels" "[I", Cond.fieldLink RX5 15 "ChipTimers$Pins" "entryTicks" "[I", Cond.fieldLink RX5 24 "ChipTimers$Pins" "next" "I", Cond.fieldLink RX5 18 "ChipTimers$Pins" "entryPins" "[I", Cond.fieldLink RX5 21 "ChipTimers$Pins" "entryLevels" "[I", Cond.fieldLink RX5 28 "ChipTimers$Pins" "entries" "I", Cond.methodLink RX5 31 Lib.Math.min.name, Cond.static Lib.Math.min.name, Cond.initialized "java/lang/Math", Cond.code Lib.Math.min.name Lib.Math.min.code 2 (some .int)]
def wsX7_arm : List Cond := .code yX7_arm cX7_arm 2 (some .int) :: ((wsX7_arm_r1 ++ wsX7_arm_r2) ++ wsX70 ++ wsX10 ++ wsX50)
def wsX7_record : List Cond := .code yX7_record cX7_record 3 (some .int) :: ([.fieldLink RX7 42 "ChipTimers" "pins" "LChipTimers$Pins;", .methodLink RX7 58 yX7_isOneOf, .static yX7_isOneOf, .initialized RX7, .code yX7_isOneOf cX7_isOneOf 2 (some .boolean), .methodLink RX7 128 yX5_tell, .instanceMethod yX5_tell, .selects RX5 yX5_tell yX5_tell, .initialized RX5, .code yX5_tell cX5_tell 4 (some .int), .fieldLink RX5 28 "ChipTimers$Pins" "entries" "I", .fieldLink RX5 24 "ChipTimers$Pins" "next" "I", .fieldLink RX5 15 "ChipTimers$Pins" "entryTicks" "[I", .fieldLink RX5 18 "ChipTimers$Pins" "entryPins" "[I", .fieldLink RX5 21 "ChipTimers$Pins" "entryLevels" "[I", .static yX7_within, .code yX7_within cX7_within 3 (some .boolean)] ++ wsX70 ++ wsX50)
def wsX7_holds : List Cond := .code yX7_holds cX7_holds 4 (some .int) :: ([.fieldLink RX7 35 "ChipTimers" "pairs" "[LChipTimers$Pair;", .fieldLink RX7 131 "ChipTimers$Pair" "holding" "I", .fieldLink RX7 134 "ChipTimers$Pair" "held" "I", .methodLink RX7 58 yX7_isOneOf, .static yX7_isOneOf, .initialized RX7, .code yX7_isOneOf cX7_isOneOf 2 (some .boolean), .methodLink RX7 62 yX7_within, .static yX7_within, .code yX7_within cX7_within 3 (some .boolean)] ++ wsX70 ++ wsX40)
def wsX7_isWhole : List Cond := .code yX7_isWhole cX7_isWhole 4 (some .boolean) :: ([.fieldLink RX7 11 "ChipTimers" "counters" "[LChipTimers$Counter;", .fieldLink RX7 70 "ChipTimers$Counter" "source" "I", .fieldLink RX7 198 "ChipTimers$Counter" "share" "I", .fieldLink RX7 201 "ChipTimers$Counter" "mode" "I"] ++ wsX70 ++ wsX20)
def wsX7_read_r1 : List Cond := [Cond.fieldLink RX7 11 "ChipTimers" "counters" "[LChipTimers$Counter;", Cond.fieldLink RX7 77 "ChipTimers$Counter" "count" "I", Cond.fieldLink RX7 35 "ChipTimers" "pairs" "[LChipTimers$Pair;", Cond.fieldLink RX7 134 "ChipTimers$Pair" "held" "I", Cond.methodLink RX7 58 yX7_isOneOf, Cond.static yX7_isOneOf, Cond.initialized RX7, Cond.code yX7_isOneOf cX7_isOneOf 2 (some .boolean), Cond.methodLink RX7 62 yX7_within, Cond.static yX7_within, Cond.code yX7_within cX7_within 3 (some .boolean), Cond.methodLink RX7 137 yX7_isWhole, Cond.instanceMethod yX7_isWhole, Cond.selects RX7 yX7_isWhole yX7_isWhole, Cond.code yX7_isWhole cX7_isWhole 4 (some .boolean), Cond.fieldLink RX7 70 "ChipTimers$Counter" "source" "I", Cond.fieldLink RX7 198 "ChipTimers$Counter" "share" "I", Cond.fieldLink RX7 201 "ChipTimers$Counter" "mode" "I", Cond.methodLink RX7 140 yX4_takeHigh, Cond.instanceMethod yX4_takeHigh, Cond.selects RX4 yX4_takeHigh yX4_takeHigh, Cond.initialized RX4, Cond.code yX4_takeHigh cX4_takeHigh 3 (some .int), Cond.fieldLink RX4 15 "ChipTimers$Pair" "holding" "I"]
def wsX7_read_r2 : List Cond := [Cond.fieldLink RX4 9 "ChipTimers$Pair" "held" "I"]
def wsX7_read : List Cond := .code yX7_read cX7_read 4 (some .int) :: ((wsX7_read_r1 ++ wsX7_read_r2) ++ wsX70 ++ wsX20 ++ wsX40)
def wsX7_wide : List Cond := .code yX7_wide cX7_wide 4 (some .int) :: ([.fieldLink RX7 11 "ChipTimers" "counters" "[LChipTimers$Counter;", .fieldLink RX7 77 "ChipTimers$Counter" "count" "I", .fieldLink RX7 74 "ChipTimers$Counter" "top" "I", .methodLink RX7 58 yX7_isOneOf, .static yX7_isOneOf, .initialized RX7, .code yX7_isOneOf cX7_isOneOf 2 (some .boolean), .methodLink RX7 137 yX7_isWhole, .instanceMethod yX7_isWhole, .selects RX7 yX7_isWhole yX7_isWhole, .code yX7_isWhole cX7_isWhole 4 (some .boolean), .fieldLink RX7 70 "ChipTimers$Counter" "source" "I", .fieldLink RX7 198 "ChipTimers$Counter" "share" "I", .fieldLink RX7 201 "ChipTimers$Counter" "mode" "I"] ++ wsX70 ++ wsX20)
def wsX7_slow : List Cond := .code yX7_slow cX7_slow 4 (some .int) :: ([.fieldLink RX7 49 "ChipTimers" "slowClock" "LChipTimers$SlowClock;", .methodLink RX7 58 yX7_isOneOf, .static yX7_isOneOf, .initialized RX7, .code yX7_isOneOf cX7_isOneOf 2 (some .boolean), .methodLink RX7 62 yX7_within, .static yX7_within, .code yX7_within cX7_within 3 (some .boolean), .methodLink RX7 143 yX6_setUp, .instanceMethod yX6_setUp, .selects RX6 yX6_setUp yX6_setUp, .initialized RX6, .code yX6_setUp cX6_setUp 4 none, .fieldLink RX6 9 "ChipTimers$SlowClock" "period" "I", .fieldLink RX6 18 "ChipTimers$SlowClock" "counter" "I", .fieldLink RX6 15 "ChipTimers$SlowClock" "how" "I", .fieldLink RX6 21 "ChipTimers$SlowClock" "first" "I", .fieldLink RX6 24 "ChipTimers$SlowClock" "second" "I"] ++ wsX70 ++ wsX60)
def wsX7_crossed : List Cond := .code yX7_crossed cX7_crossed 2 (some .int) :: ([.fieldLink RX7 49 "ChipTimers" "slowClock" "LChipTimers$SlowClock;", .methodLink RX7 144 yX6_tell, .instanceMethod yX6_tell, .selects RX6 yX6_tell yX6_tell, .initialized RX6, .code yX6_tell cX6_tell 2 (some .int), .fieldLink RX6 21 "ChipTimers$SlowClock" "first" "I", .fieldLink RX6 24 "ChipTimers$SlowClock" "second" "I", .fieldLink RX6 9 "ChipTimers$SlowClock" "period" "I", .fieldLink RX6 18 "ChipTimers$SlowClock" "counter" "I", .fieldLink RX6 15 "ChipTimers$SlowClock" "how" "I"] ++ wsX70 ++ wsX60)
def wsJ6_bitCount_0f7a4 : List Cond := .code yJ6_bitCount_0f7a4 cJ6_bitCount_0f7a4 1 (some .int) :: ([.constant RJ6 265 (1431655765), .constant RJ6 266 (858993459), .constant RJ6 267 (252645135)])
def wsX7_outputsOn : List Cond := .code yX7_outputsOn cX7_outputsOn 3 (some .int) :: ([.fieldLink RX7 29 "ChipTimers" "channels" "[LChipTimers$Channel;", .fieldLink RX7 117 "ChipTimers" "braked" "Z", .methodLink RX7 204 yX1_outputsOn, .instanceMethod yX1_outputsOn, .selects RX1 yX1_outputsOn yX1_outputsOn, .initialized RX1, .code yX1_outputsOn cX1_outputsOn 2 (some .int), .fieldLink RX1 9 "ChipTimers$Channel" "mode" "I", .fieldLink RX1 24 "ChipTimers$Channel" "since" "I", .fieldLink RX1 27 "ChipTimers$Channel" "dead" "I", .fieldLink RX1 21 "ChipTimers$Channel" "level" "I", .methodLink RX7 207 yJ6_bitCount_0f7a4, .static yJ6_bitCount_0f7a4, .initialized RJ6, .code yJ6_bitCount_0f7a4 cJ6_bitCount_0f7a4 1 (some .int), .constant RJ6 265 (1431655765), .constant RJ6 266 (858993459), .constant RJ6 267 (252645135)] ++ wsX70 ++ wsX10)
def wsX7_catchersReady : List Cond := .code yX7_catchersReady cX7_catchersReady 3 (some .int) :: ([.fieldLink RX7 23 "ChipTimers" "catchers" "[LChipTimers$Catcher;", .fieldLink RX7 212 "ChipTimers$Catcher" "ready" "I"] ++ wsX70 ++ wsX00)
def wsX7_oversOfAll : List Cond := .code yX7_oversOfAll cX7_oversOfAll 3 (some .int) :: ([.fieldLink RX7 11 "ChipTimers" "counters" "[LChipTimers$Counter;", .fieldLink RX7 215 "ChipTimers$Counter" "overs" "I"] ++ wsX70 ++ wsX20)
def wsX7_many_r1 : List Cond := [Cond.fieldLink RX7 103 "ChipTimers" "tickCount" "I", Cond.fieldLink RX7 117 "ChipTimers" "braked" "Z", Cond.fieldLink RX7 42 "ChipTimers" "pins" "LChipTimers$Pins;", Cond.fieldLink RX7 148 "ChipTimers$Pins" "entries" "I", Cond.methodLink RX7 145 yX7_outputsOn, Cond.instanceMethod yX7_outputsOn, Cond.selects RX7 yX7_outputsOn yX7_outputsOn, Cond.initialized RX7, Cond.code yX7_outputsOn cX7_outputsOn 3 (some .int), Cond.fieldLink RX7 29 "ChipTimers" "channels" "[LChipTimers$Channel;", Cond.methodLink RX7 204 yX1_outputsOn, Cond.instanceMethod yX1_outputsOn, Cond.selects RX1 yX1_outputsOn yX1_outputsOn, Cond.initialized RX1, Cond.code yX1_outputsOn cX1_outputsOn 2 (some .int), Cond.fieldLink RX1 9 "ChipTimers$Channel" "mode" "I", Cond.fieldLink RX1 24 "ChipTimers$Channel" "since" "I", Cond.fieldLink RX1 27 "ChipTimers$Channel" "dead" "I", Cond.fieldLink RX1 21 "ChipTimers$Channel" "level" "I", Cond.methodLink RX7 207 yJ6_bitCount_0f7a4, Cond.static yJ6_bitCount_0f7a4, Cond.initialized RJ6, Cond.code yJ6_bitCount_0f7a4 cJ6_bitCount_0f7a4 1 (some .int), Cond.constant RJ6 265 (1431655765)]
def wsX7_many_r2 : List Cond := [Cond.constant RJ6 266 (858993459), Cond.constant RJ6 267 (252645135), Cond.methodLink RX7 151 yX7_catchersReady, Cond.instanceMethod yX7_catchersReady, Cond.selects RX7 yX7_catchersReady yX7_catchersReady, Cond.code yX7_catchersReady cX7_catchersReady 3 (some .int), Cond.fieldLink RX7 23 "ChipTimers" "catchers" "[LChipTimers$Catcher;", Cond.fieldLink RX7 212 "ChipTimers$Catcher" "ready" "I", Cond.methodLink RX7 154 yX7_oversOfAll, Cond.instanceMethod yX7_oversOfAll, Cond.selects RX7 yX7_oversOfAll yX7_oversOfAll, Cond.code yX7_oversOfAll cX7_oversOfAll 3 (some .int), Cond.fieldLink RX7 11 "ChipTimers" "counters" "[LChipTimers$Counter;", Cond.fieldLink RX7 215 "ChipTimers$Counter" "overs" "I"]
def wsX7_many : List Cond := .code yX7_many cX7_many 2 (some .int) :: ((wsX7_many_r1 ++ wsX7_many_r2) ++ wsX70 ++ wsX50 ++ wsX10 ++ wsX00 ++ wsX20)
def wsX8_init_r1 : List Cond := [Cond.methodLink RX8 1 objectInit, Cond.instanceMethod objectInit, Cond.code objectInit ⟨#[0xb1]⟩ 1 none, Cond.arrayClass .int, Cond.fieldLink RX8 7 "ChipTimersModel" "modeOf" "[I", Cond.fieldLink RX8 13 "ChipTimersModel" "topOf" "[I", Cond.fieldLink RX8 16 "ChipTimersModel" "shareOf" "[I", Cond.fieldLink RX8 19 "ChipTimersModel" "sourceOf" "[I", Cond.fieldLink RX8 22 "ChipTimersModel" "countOf" "[I", Cond.fieldLink RX8 25 "ChipTimersModel" "phaseOf" "[I", Cond.fieldLink RX8 28 "ChipTimersModel" "wayOf" "[I", Cond.fieldLink RX8 31 "ChipTimersModel" "oversOf" "[I", Cond.fieldLink RX8 34 "ChipTimersModel" "waitsOf" "[I", Cond.arrayClass .boolean, Cond.fieldLink RX8 37 "ChipTimersModel" "hasStepped" "[Z", Cond.fieldLink RX8 41 "ChipTimersModel" "wentOver" "[Z", Cond.fieldLink RX8 44 "ChipTimersModel" "rawOf" "[I", Cond.fieldLink RX8 47 "ChipTimersModel" "steadyOf" "[I", Cond.fieldLink RX8 50 "ChipTimersModel" "filterOf" "[I", Cond.fieldLink RX8 53 "ChipTimersModel" "runOf" "[I", Cond.fieldLink RX8 56 "ChipTimersModel" "edgeOf" "[I", Cond.fieldLink RX8 59 "ChipTimersModel" "catches" "[I", Cond.fieldLink RX8 62 "ChipTimersModel" "edgesOf" "[I", Cond.fieldLink RX8 65 "ChipTimersModel" "everyOf" "[I"]
def wsX8_init_r2 : List Cond := [Cond.fieldLink RX8 68 "ChipTimersModel" "seenOf" "[I", Cond.fieldLink RX8 71 "ChipTimersModel" "valueOf" "[I", Cond.fieldLink RX8 74 "ChipTimersModel" "readyOf" "[I", Cond.fieldLink RX8 77 "ChipTimersModel" "missedOf" "[I", Cond.fieldLink RX8 80 "ChipTimersModel" "comparesTo" "[I", Cond.fieldLink RX8 83 "ChipTimersModel" "kindOf" "[I", Cond.fieldLink RX8 86 "ChipTimersModel" "markOf" "[I", Cond.fieldLink RX8 89 "ChipTimersModel" "levelOf" "[I", Cond.fieldLink RX8 92 "ChipTimersModel" "sinceOf" "[I", Cond.fieldLink RX8 95 "ChipTimersModel" "deadOf" "[I", Cond.fieldLink RX8 98 "ChipTimersModel" "polarityOf" "[I", Cond.fieldLink RX8 101 "ChipTimersModel" "safeOf" "[I", Cond.fieldLink RX8 104 "ChipTimersModel" "pinLevel" "[I", Cond.fieldLink RX8 107 "ChipTimersModel" "entryTick" "[I", Cond.fieldLink RX8 110 "ChipTimersModel" "entryPin" "[I", Cond.fieldLink RX8 113 "ChipTimersModel" "entryLevel" "[I", Cond.fieldLink RX8 116 "ChipTimersModel" "isHolding" "[Z", Cond.fieldLink RX8 119 "ChipTimersModel" "heldBy" "[I", Cond.fieldLink RX8 122 "ChipTimersModel" "period" "I"]
def wsX8_init : List Cond := .code yX8_init cX8_init 2 none :: ((wsX8_init_r1 ++ wsX8_init_r2) ++ wsX80)
def wsX8_within : List Cond := .code yX8_within cX8_within 3 (some .boolean) :: ([])
def wsX8_isOne : List Cond := .code yX8_isOne cX8_isOne 1 (some .boolean) :: ([.methodLink RX8 126 yX8_within, .static yX8_within, .initialized RX8, .code yX8_within cX8_within 3 (some .boolean)])
def wsX8_counter : List Cond := .code yX8_counter cX8_counter 5 (some .int) :: ([.fieldLink RX8 7 "ChipTimersModel" "modeOf" "[I", .fieldLink RX8 13 "ChipTimersModel" "topOf" "[I", .fieldLink RX8 16 "ChipTimersModel" "shareOf" "[I", .fieldLink RX8 22 "ChipTimersModel" "countOf" "[I", .fieldLink RX8 25 "ChipTimersModel" "phaseOf" "[I", .fieldLink RX8 31 "ChipTimersModel" "oversOf" "[I", .fieldLink RX8 28 "ChipTimersModel" "wayOf" "[I", .fieldLink RX8 34 "ChipTimersModel" "waitsOf" "[I", .methodLink RX8 130 yX8_isOne, .static yX8_isOne, .initialized RX8, .code yX8_isOne cX8_isOne 1 (some .boolean), .methodLink RX8 126 yX8_within, .static yX8_within, .code yX8_within cX8_within 3 (some .boolean)] ++ wsX80)
def wsX8_source : List Cond := .code yX8_source cX8_source 4 (some .int) :: ([.fieldLink RX8 19 "ChipTimersModel" "sourceOf" "[I", .methodLink RX8 130 yX8_isOne, .static yX8_isOne, .initialized RX8, .code yX8_isOne cX8_isOne 1 (some .boolean), .methodLink RX8 126 yX8_within, .static yX8_within, .code yX8_within cX8_within 3 (some .boolean)] ++ wsX80)
def wsX8_count : List Cond := .code yX8_count cX8_count 4 (some .int) :: ([.fieldLink RX8 13 "ChipTimersModel" "topOf" "[I", .fieldLink RX8 22 "ChipTimersModel" "countOf" "[I", .methodLink RX8 130 yX8_isOne, .static yX8_isOne, .initialized RX8, .code yX8_isOne cX8_isOne 1 (some .boolean), .methodLink RX8 126 yX8_within, .static yX8_within, .code yX8_within cX8_within 3 (some .boolean)] ++ wsX80)
def wsX8_top : List Cond := .code yX8_top cX8_top 3 (some .int) :: ([.fieldLink RX8 34 "ChipTimersModel" "waitsOf" "[I", .fieldLink RX8 13 "ChipTimersModel" "topOf" "[I", .methodLink RX8 130 yX8_isOne, .static yX8_isOne, .initialized RX8, .code yX8_isOne cX8_isOne 1 (some .boolean), .methodLink RX8 126 yX8_within, .static yX8_within, .code yX8_within cX8_within 3 (some .boolean)] ++ wsX80)
def wsX8_ofCounter : List Cond := .code yX8_ofCounter cX8_ofCounter 3 (some .int) :: ([.fieldLink RX8 22 "ChipTimersModel" "countOf" "[I", .fieldLink RX8 13 "ChipTimersModel" "topOf" "[I", .fieldLink RX8 7 "ChipTimersModel" "modeOf" "[I", .fieldLink RX8 16 "ChipTimersModel" "shareOf" "[I", .fieldLink RX8 19 "ChipTimersModel" "sourceOf" "[I", .fieldLink RX8 25 "ChipTimersModel" "phaseOf" "[I", .fieldLink RX8 28 "ChipTimersModel" "wayOf" "[I", .fieldLink RX8 31 "ChipTimersModel" "oversOf" "[I", .fieldLink RX8 34 "ChipTimersModel" "waitsOf" "[I", .methodLink RX8 130 yX8_isOne, .static yX8_isOne, .initialized RX8, .code yX8_isOne cX8_isOne 1 (some .boolean), .methodLink RX8 126 yX8_within, .static yX8_within, .code yX8_within cX8_within 3 (some .boolean)] ++ wsX80)
def wsX8_hasPulse : List Cond := .code yX8_hasPulse cX8_hasPulse 2 (some .boolean) :: ([.fieldLink RX8 19 "ChipTimersModel" "sourceOf" "[I", .fieldLink RX8 41 "ChipTimersModel" "wentOver" "[Z", .fieldLink RX8 56 "ChipTimersModel" "edgeOf" "[I"] ++ wsX80)
def wsX8_goesOver : List Cond := .code yX8_goesOver cX8_goesOver 2 none :: ([.fieldLink RX8 41 "ChipTimersModel" "wentOver" "[Z", .fieldLink RX8 31 "ChipTimersModel" "oversOf" "[I"] ++ wsX80)
def wsX8_takesTop : List Cond := .code yX8_takesTop cX8_takesTop 2 none :: ([.fieldLink RX8 13 "ChipTimersModel" "topOf" "[I", .fieldLink RX8 34 "ChipTimersModel" "waitsOf" "[I"] ++ wsX80)
def wsX8_stepsUp : List Cond := .code yX8_stepsUp cX8_stepsUp 2 none :: ([.fieldLink RX8 22 "ChipTimersModel" "countOf" "[I", .fieldLink RX8 13 "ChipTimersModel" "topOf" "[I", .methodLink RX8 134 yX8_goesOver, .instanceMethod yX8_goesOver, .selects RX8 yX8_goesOver yX8_goesOver, .initialized RX8, .code yX8_goesOver cX8_goesOver 2 none, .fieldLink RX8 41 "ChipTimersModel" "wentOver" "[Z", .fieldLink RX8 31 "ChipTimersModel" "oversOf" "[I", .methodLink RX8 138 yX8_takesTop, .instanceMethod yX8_takesTop, .selects RX8 yX8_takesTop yX8_takesTop, .code yX8_takesTop cX8_takesTop 2 none, .fieldLink RX8 34 "ChipTimersModel" "waitsOf" "[I"] ++ wsX80)
def wsX8_stepsDown : List Cond := .code yX8_stepsDown cX8_stepsDown 2 none :: ([.fieldLink RX8 22 "ChipTimersModel" "countOf" "[I", .fieldLink RX8 13 "ChipTimersModel" "topOf" "[I", .methodLink RX8 134 yX8_goesOver, .instanceMethod yX8_goesOver, .selects RX8 yX8_goesOver yX8_goesOver, .initialized RX8, .code yX8_goesOver cX8_goesOver 2 none, .fieldLink RX8 41 "ChipTimersModel" "wentOver" "[Z", .fieldLink RX8 31 "ChipTimersModel" "oversOf" "[I", .methodLink RX8 138 yX8_takesTop, .instanceMethod yX8_takesTop, .selects RX8 yX8_takesTop yX8_takesTop, .code yX8_takesTop cX8_takesTop 2 none, .fieldLink RX8 34 "ChipTimersModel" "waitsOf" "[I"] ++ wsX80)
def wsX8_stepsBoth : List Cond := .code yX8_stepsBoth cX8_stepsBoth 2 none :: ([.fieldLink RX8 28 "ChipTimersModel" "wayOf" "[I", .fieldLink RX8 22 "ChipTimersModel" "countOf" "[I", .fieldLink RX8 13 "ChipTimersModel" "topOf" "[I", .methodLink RX8 134 yX8_goesOver, .instanceMethod yX8_goesOver, .selects RX8 yX8_goesOver yX8_goesOver, .initialized RX8, .code yX8_goesOver cX8_goesOver 2 none, .fieldLink RX8 41 "ChipTimersModel" "wentOver" "[Z", .fieldLink RX8 31 "ChipTimersModel" "oversOf" "[I", .methodLink RX8 138 yX8_takesTop, .instanceMethod yX8_takesTop, .selects RX8 yX8_takesTop yX8_takesTop, .code yX8_takesTop cX8_takesTop 2 none, .fieldLink RX8 34 "ChipTimersModel" "waitsOf" "[I"] ++ wsX80)
def wsX8_steps_r1 : List Cond := [Cond.fieldLink RX8 37 "ChipTimersModel" "hasStepped" "[Z", Cond.fieldLink RX8 7 "ChipTimersModel" "modeOf" "[I", Cond.methodLink RX8 141 yX8_stepsUp, Cond.instanceMethod yX8_stepsUp, Cond.selects RX8 yX8_stepsUp yX8_stepsUp, Cond.initialized RX8, Cond.code yX8_stepsUp cX8_stepsUp 2 none, Cond.fieldLink RX8 22 "ChipTimersModel" "countOf" "[I", Cond.fieldLink RX8 13 "ChipTimersModel" "topOf" "[I", Cond.methodLink RX8 134 yX8_goesOver, Cond.instanceMethod yX8_goesOver, Cond.selects RX8 yX8_goesOver yX8_goesOver, Cond.code yX8_goesOver cX8_goesOver 2 none, Cond.fieldLink RX8 41 "ChipTimersModel" "wentOver" "[Z", Cond.fieldLink RX8 31 "ChipTimersModel" "oversOf" "[I", Cond.methodLink RX8 138 yX8_takesTop, Cond.instanceMethod yX8_takesTop, Cond.selects RX8 yX8_takesTop yX8_takesTop, Cond.code yX8_takesTop cX8_takesTop 2 none, Cond.fieldLink RX8 34 "ChipTimersModel" "waitsOf" "[I", Cond.methodLink RX8 144 yX8_stepsDown, Cond.instanceMethod yX8_stepsDown, Cond.selects RX8 yX8_stepsDown yX8_stepsDown, Cond.code yX8_stepsDown cX8_stepsDown 2 none]
def wsX8_steps_r2 : List Cond := [Cond.methodLink RX8 147 yX8_stepsBoth, Cond.instanceMethod yX8_stepsBoth, Cond.selects RX8 yX8_stepsBoth yX8_stepsBoth, Cond.code yX8_stepsBoth cX8_stepsBoth 2 none, Cond.fieldLink RX8 28 "ChipTimersModel" "wayOf" "[I"]
def wsX8_steps : List Cond := .code yX8_steps cX8_steps 2 none :: ((wsX8_steps_r1 ++ wsX8_steps_r2) ++ wsX80)
def wsX8_counters_r1 : List Cond := [Cond.fieldLink RX8 37 "ChipTimersModel" "hasStepped" "[Z", Cond.fieldLink RX8 41 "ChipTimersModel" "wentOver" "[Z", Cond.fieldLink RX8 25 "ChipTimersModel" "phaseOf" "[I", Cond.fieldLink RX8 16 "ChipTimersModel" "shareOf" "[I", Cond.methodLink RX8 150 yX8_hasPulse, Cond.instanceMethod yX8_hasPulse, Cond.selects RX8 yX8_hasPulse yX8_hasPulse, Cond.initialized RX8, Cond.code yX8_hasPulse cX8_hasPulse 2 (some .boolean), Cond.fieldLink RX8 19 "ChipTimersModel" "sourceOf" "[I", Cond.fieldLink RX8 56 "ChipTimersModel" "edgeOf" "[I", Cond.methodLink RX8 153 yX8_steps, Cond.instanceMethod yX8_steps, Cond.selects RX8 yX8_steps yX8_steps, Cond.code yX8_steps cX8_steps 2 none, Cond.fieldLink RX8 7 "ChipTimersModel" "modeOf" "[I", Cond.methodLink RX8 141 yX8_stepsUp, Cond.instanceMethod yX8_stepsUp, Cond.selects RX8 yX8_stepsUp yX8_stepsUp, Cond.code yX8_stepsUp cX8_stepsUp 2 none, Cond.fieldLink RX8 22 "ChipTimersModel" "countOf" "[I", Cond.fieldLink RX8 13 "ChipTimersModel" "topOf" "[I", Cond.methodLink RX8 134 yX8_goesOver, Cond.instanceMethod yX8_goesOver]
def wsX8_counters_r2 : List Cond := [Cond.selects RX8 yX8_goesOver yX8_goesOver, Cond.code yX8_goesOver cX8_goesOver 2 none, Cond.fieldLink RX8 31 "ChipTimersModel" "oversOf" "[I", Cond.methodLink RX8 138 yX8_takesTop, Cond.instanceMethod yX8_takesTop, Cond.selects RX8 yX8_takesTop yX8_takesTop, Cond.code yX8_takesTop cX8_takesTop 2 none, Cond.fieldLink RX8 34 "ChipTimersModel" "waitsOf" "[I", Cond.methodLink RX8 144 yX8_stepsDown, Cond.instanceMethod yX8_stepsDown, Cond.selects RX8 yX8_stepsDown yX8_stepsDown, Cond.code yX8_stepsDown cX8_stepsDown 2 none, Cond.methodLink RX8 147 yX8_stepsBoth, Cond.instanceMethod yX8_stepsBoth, Cond.selects RX8 yX8_stepsBoth yX8_stepsBoth, Cond.code yX8_stepsBoth cX8_stepsBoth 2 none, Cond.fieldLink RX8 28 "ChipTimersModel" "wayOf" "[I"]
def wsX8_counters : List Cond := .code yX8_counters cX8_counters 2 none :: ((wsX8_counters_r1 ++ wsX8_counters_r2) ++ wsX80)
def wsX8_input : List Cond := .code yX8_input cX8_input 4 (some .int) :: ([.fieldLink RX8 44 "ChipTimersModel" "rawOf" "[I", .methodLink RX8 130 yX8_isOne, .static yX8_isOne, .initialized RX8, .code yX8_isOne cX8_isOne 1 (some .boolean), .methodLink RX8 126 yX8_within, .static yX8_within, .code yX8_within cX8_within 3 (some .boolean)] ++ wsX80)
def wsX8_filter : List Cond := .code yX8_filter cX8_filter 4 (some .int) :: ([.fieldLink RX8 50 "ChipTimersModel" "filterOf" "[I", .methodLink RX8 130 yX8_isOne, .static yX8_isOne, .initialized RX8, .code yX8_isOne cX8_isOne 1 (some .boolean), .methodLink RX8 126 yX8_within, .static yX8_within, .code yX8_within cX8_within 3 (some .boolean)] ++ wsX80)
def wsX8_ofInput : List Cond := .code yX8_ofInput cX8_ofInput 3 (some .int) :: ([.fieldLink RX8 44 "ChipTimersModel" "rawOf" "[I", .fieldLink RX8 47 "ChipTimersModel" "steadyOf" "[I", .fieldLink RX8 53 "ChipTimersModel" "runOf" "[I", .fieldLink RX8 50 "ChipTimersModel" "filterOf" "[I", .methodLink RX8 130 yX8_isOne, .static yX8_isOne, .initialized RX8, .code yX8_isOne cX8_isOne 1 (some .boolean), .methodLink RX8 126 yX8_within, .static yX8_within, .code yX8_within cX8_within 3 (some .boolean)] ++ wsX80)
def wsX8_inputs : List Cond := .code yX8_inputs cX8_inputs 2 none :: ([.fieldLink RX8 56 "ChipTimersModel" "edgeOf" "[I", .fieldLink RX8 53 "ChipTimersModel" "runOf" "[I", .fieldLink RX8 44 "ChipTimersModel" "rawOf" "[I", .fieldLink RX8 47 "ChipTimersModel" "steadyOf" "[I", .fieldLink RX8 50 "ChipTimersModel" "filterOf" "[I"] ++ wsX80)
def wsX8_catcher : List Cond := .code yX8_catcher cX8_catcher 5 (some .int) :: ([.fieldLink RX8 59 "ChipTimersModel" "catches" "[I", .fieldLink RX8 62 "ChipTimersModel" "edgesOf" "[I", .fieldLink RX8 65 "ChipTimersModel" "everyOf" "[I", .fieldLink RX8 68 "ChipTimersModel" "seenOf" "[I", .fieldLink RX8 71 "ChipTimersModel" "valueOf" "[I", .fieldLink RX8 74 "ChipTimersModel" "readyOf" "[I", .fieldLink RX8 77 "ChipTimersModel" "missedOf" "[I", .methodLink RX8 130 yX8_isOne, .static yX8_isOne, .initialized RX8, .code yX8_isOne cX8_isOne 1 (some .boolean), .methodLink RX8 126 yX8_within, .static yX8_within, .code yX8_within cX8_within 3 (some .boolean)] ++ wsX80)
def wsX8_taken : List Cond := .code yX8_taken cX8_taken 2 (some .int) :: ([.fieldLink RX8 74 "ChipTimersModel" "readyOf" "[I", .fieldLink RX8 71 "ChipTimersModel" "valueOf" "[I", .methodLink RX8 130 yX8_isOne, .static yX8_isOne, .initialized RX8, .code yX8_isOne cX8_isOne 1 (some .boolean), .methodLink RX8 126 yX8_within, .static yX8_within, .code yX8_within cX8_within 3 (some .boolean)] ++ wsX80)
def wsX8_ofCatcher : List Cond := .code yX8_ofCatcher cX8_ofCatcher 3 (some .int) :: ([.fieldLink RX8 59 "ChipTimersModel" "catches" "[I", .fieldLink RX8 62 "ChipTimersModel" "edgesOf" "[I", .fieldLink RX8 65 "ChipTimersModel" "everyOf" "[I", .fieldLink RX8 68 "ChipTimersModel" "seenOf" "[I", .fieldLink RX8 71 "ChipTimersModel" "valueOf" "[I", .fieldLink RX8 74 "ChipTimersModel" "readyOf" "[I", .fieldLink RX8 77 "ChipTimersModel" "missedOf" "[I", .methodLink RX8 130 yX8_isOne, .static yX8_isOne, .initialized RX8, .code yX8_isOne cX8_isOne 1 (some .boolean), .methodLink RX8 126 yX8_within, .static yX8_within, .code yX8_within cX8_within 3 (some .boolean)] ++ wsX80)
def wsX8_catchers : List Cond := .code yX8_catchers cX8_catchers 3 none :: ([.fieldLink RX8 56 "ChipTimersModel" "edgeOf" "[I", .fieldLink RX8 62 "ChipTimersModel" "edgesOf" "[I", .fieldLink RX8 68 "ChipTimersModel" "seenOf" "[I", .fieldLink RX8 65 "ChipTimersModel" "everyOf" "[I", .fieldLink RX8 77 "ChipTimersModel" "missedOf" "[I", .fieldLink RX8 74 "ChipTimersModel" "readyOf" "[I", .fieldLink RX8 71 "ChipTimersModel" "valueOf" "[I", .fieldLink RX8 22 "ChipTimersModel" "countOf" "[I", .fieldLink RX8 59 "ChipTimersModel" "catches" "[I"] ++ wsX80)
def wsX8_levelThen : List Cond := .code yX8_levelThen cX8_levelThen 4 (some .int) :: ([.fieldLink RX8 80 "ChipTimersModel" "comparesTo" "[I", .fieldLink RX8 37 "ChipTimersModel" "hasStepped" "[Z", .fieldLink RX8 22 "ChipTimersModel" "countOf" "[I", .fieldLink RX8 86 "ChipTimersModel" "markOf" "[I", .fieldLink RX8 83 "ChipTimersModel" "kindOf" "[I", .fieldLink RX8 89 "ChipTimersModel" "levelOf" "[I"] ++ wsX80)
def wsX8_channels : List Cond := .code yX8_channels cX8_channels 3 none :: ([.fieldLink RX8 92 "ChipTimersModel" "sinceOf" "[I", .fieldLink RX8 89 "ChipTimersModel" "levelOf" "[I", .methodLink RX8 190 yX8_levelThen, .instanceMethod yX8_levelThen, .selects RX8 yX8_levelThen yX8_levelThen, .initialized RX8, .code yX8_levelThen cX8_levelThen 4 (some .int), .fieldLink RX8 80 "ChipTimersModel" "comparesTo" "[I", .fieldLink RX8 37 "ChipTimersModel" "hasStepped" "[Z", .fieldLink RX8 22 "ChipTimersModel" "countOf" "[I", .fieldLink RX8 86 "ChipTimersModel" "markOf" "[I", .fieldLink RX8 83 "ChipTimersModel" "kindOf" "[I"] ++ wsX80)
def wsX8_twisted : List Cond := .code yX8_twisted cX8_twisted 1 (some .int) :: ([])
def wsX8_untwisted : List Cond := .code yX8_untwisted cX8_untwisted 3 (some .int) :: ([])
def wsX8_sampleOf : List Cond := .code yX8_sampleOf cX8_sampleOf 3 (some .int) :: ([.fieldLink RX8 224 "ChipTimersModel" "how" "I", .methodLink RX8 227 yX8_twisted, .static yX8_twisted, .initialized RX8, .code yX8_twisted cX8_twisted 1 (some .int), .methodLink RX8 230 yX8_untwisted, .static yX8_untwisted, .code yX8_untwisted cX8_untwisted 3 (some .int)] ++ wsX80)
def wsX8_isOn : List Cond := .code yX8_isOn cX8_isOn 3 (some .boolean) :: ([.fieldLink RX8 83 "ChipTimersModel" "kindOf" "[I", .fieldLink RX8 194 "ChipTimersModel" "isBraked" "Z", .fieldLink RX8 89 "ChipTimersModel" "levelOf" "[I", .fieldLink RX8 92 "ChipTimersModel" "sinceOf" "[I", .fieldLink RX8 95 "ChipTimersModel" "deadOf" "[I"] ++ wsX80)
def wsX8_pinThen : List Cond := .code yX8_pinThen cX8_pinThen 3 (some .int) :: ([.fieldLink RX8 194 "ChipTimersModel" "isBraked" "Z", .fieldLink RX8 101 "ChipTimersModel" "safeOf" "[I", .fieldLink RX8 98 "ChipTimersModel" "polarityOf" "[I", .methodLink RX8 198 yX8_isOn, .instanceMethod yX8_isOn, .selects RX8 yX8_isOn yX8_isOn, .initialized RX8, .code yX8_isOn cX8_isOn 3 (some .boolean), .fieldLink RX8 83 "ChipTimersModel" "kindOf" "[I", .fieldLink RX8 89 "ChipTimersModel" "levelOf" "[I", .fieldLink RX8 92 "ChipTimersModel" "sinceOf" "[I", .fieldLink RX8 95 "ChipTimersModel" "deadOf" "[I"] ++ wsX80)
def wsX8_enters : List Cond := .code yX8_enters cX8_enters 3 none :: ([.fieldLink RX8 202 "ChipTimersModel" "entries" "I", .fieldLink RX8 107 "ChipTimersModel" "entryTick" "[I", .fieldLink RX8 110 "ChipTimersModel" "entryPin" "[I", .fieldLink RX8 113 "ChipTimersModel" "entryLevel" "[I", .fieldLink RX8 159 "ChipTimersModel" "tick" "I", .fieldLink RX8 104 "ChipTimersModel" "pinLevel" "[I"] ++ wsX80)
def wsX8_pins_r1 : List Cond := [Cond.fieldLink RX8 104 "ChipTimersModel" "pinLevel" "[I", Cond.methodLink RX8 205 yX8_pinThen, Cond.instanceMethod yX8_pinThen, Cond.selects RX8 yX8_pinThen yX8_pinThen, Cond.initialized RX8, Cond.code yX8_pinThen cX8_pinThen 3 (some .int), Cond.fieldLink RX8 194 "ChipTimersModel" "isBraked" "Z", Cond.fieldLink RX8 101 "ChipTimersModel" "safeOf" "[I", Cond.fieldLink RX8 98 "ChipTimersModel" "polarityOf" "[I", Cond.methodLink RX8 198 yX8_isOn, Cond.instanceMethod yX8_isOn, Cond.selects RX8 yX8_isOn yX8_isOn, Cond.code yX8_isOn cX8_isOn 3 (some .boolean), Cond.fieldLink RX8 83 "ChipTimersModel" "kindOf" "[I", Cond.fieldLink RX8 89 "ChipTimersModel" "levelOf" "[I", Cond.fieldLink RX8 92 "ChipTimersModel" "sinceOf" "[I", Cond.fieldLink RX8 95 "ChipTimersModel" "deadOf" "[I", Cond.methodLink RX8 208 yX8_enters, Cond.instanceMethod yX8_enters, Cond.selects RX8 yX8_enters yX8_enters, Cond.code yX8_enters cX8_enters 3 none, Cond.fieldLink RX8 202 "ChipTimersModel" "entries" "I", Cond.fieldLink RX8 107 "ChipTimersModel" "entryTick" "[I", Cond.fieldLink RX8 110 "ChipTimersModel" "entryPin" "[I"]
def wsX8_pins_r2 : List Cond := [Cond.fieldLink RX8 113 "ChipTimersModel" "entryLevel" "[I", Cond.fieldLink RX8 159 "ChipTimersModel" "tick" "I"]
def wsX8_pins : List Cond := .code yX8_pins cX8_pins 3 none :: ((wsX8_pins_r1 ++ wsX8_pins_r2) ++ wsX80)
def wsX8_oneTick_r1 : List Cond := [Cond.fieldLink RX8 22 "ChipTimersModel" "countOf" "[I", Cond.fieldLink RX8 156 "ChipTimersModel" "crossed" "I", Cond.fieldLink RX8 159 "ChipTimersModel" "tick" "I", Cond.fieldLink RX8 122 "ChipTimersModel" "period" "I", Cond.fieldLink RX8 174 "ChipTimersModel" "first" "I", Cond.fieldLink RX8 177 "ChipTimersModel" "second" "I", Cond.methodLink RX8 162 yX8_inputs, Cond.instanceMethod yX8_inputs, Cond.selects RX8 yX8_inputs yX8_inputs, Cond.initialized RX8, Cond.code yX8_inputs cX8_inputs 2 none, Cond.fieldLink RX8 56 "ChipTimersModel" "edgeOf" "[I", Cond.fieldLink RX8 53 "ChipTimersModel" "runOf" "[I", Cond.fieldLink RX8 44 "ChipTimersModel" "rawOf" "[I", Cond.fieldLink RX8 47 "ChipTimersModel" "steadyOf" "[I", Cond.fieldLink RX8 50 "ChipTimersModel" "filterOf" "[I", Cond.methodLink RX8 165 yX8_counters, Cond.instanceMethod yX8_counters, Cond.selects RX8 yX8_counters yX8_counters, Cond.code yX8_counters cX8_counters 2 none, Cond.fieldLink RX8 37 "ChipTimersModel" "hasStepped" "[Z", Cond.fieldLink RX8 41 "ChipTimersModel" "wentOver" "[Z", Cond.fieldLink RX8 25 "ChipTimersModel" "phaseOf" "[I", Cond.fieldLink RX8 16 "ChipTimersModel" "shareOf" "[I"]
def wsX8_oneTick_r2 : List Cond := [Cond.methodLink RX8 150 yX8_hasPulse, Cond.instanceMethod yX8_hasPulse, Cond.selects RX8 yX8_hasPulse yX8_hasPulse, Cond.code yX8_hasPulse cX8_hasPulse 2 (some .boolean), Cond.fieldLink RX8 19 "ChipTimersModel" "sourceOf" "[I", Cond.methodLink RX8 153 yX8_steps, Cond.instanceMethod yX8_steps, Cond.selects RX8 yX8_steps yX8_steps, Cond.code yX8_steps cX8_steps 2 none, Cond.fieldLink RX8 7 "ChipTimersModel" "modeOf" "[I", Cond.methodLink RX8 141 yX8_stepsUp, Cond.instanceMethod yX8_stepsUp, Cond.selects RX8 yX8_stepsUp yX8_stepsUp, Cond.code yX8_stepsUp cX8_stepsUp 2 none, Cond.fieldLink RX8 13 "ChipTimersModel" "topOf" "[I", Cond.methodLink RX8 134 yX8_goesOver, Cond.instanceMethod yX8_goesOver, Cond.selects RX8 yX8_goesOver yX8_goesOver, Cond.code yX8_goesOver cX8_goesOver 2 none, Cond.fieldLink RX8 31 "ChipTimersModel" "oversOf" "[I", Cond.methodLink RX8 138 yX8_takesTop, Cond.instanceMethod yX8_takesTop, Cond.selects RX8 yX8_takesTop yX8_takesTop, Cond.code yX8_takesTop cX8_takesTop 2 none]
def wsX8_oneTick_r3 : List Cond := [Cond.fieldLink RX8 34 "ChipTimersModel" "waitsOf" "[I", Cond.methodLink RX8 144 yX8_stepsDown, Cond.instanceMethod yX8_stepsDown, Cond.selects RX8 yX8_stepsDown yX8_stepsDown, Cond.code yX8_stepsDown cX8_stepsDown 2 none, Cond.methodLink RX8 147 yX8_stepsBoth, Cond.instanceMethod yX8_stepsBoth, Cond.selects RX8 yX8_stepsBoth yX8_stepsBoth, Cond.code yX8_stepsBoth cX8_stepsBoth 2 none, Cond.fieldLink RX8 28 "ChipTimersModel" "wayOf" "[I", Cond.methodLink RX8 168 yX8_catchers, Cond.instanceMethod yX8_catchers, Cond.selects RX8 yX8_catchers yX8_catchers, Cond.code yX8_catchers cX8_catchers 3 none, Cond.fieldLink RX8 62 "ChipTimersModel" "edgesOf" "[I", Cond.fieldLink RX8 68 "ChipTimersModel" "seenOf" "[I", Cond.fieldLink RX8 65 "ChipTimersModel" "everyOf" "[I", Cond.fieldLink RX8 77 "ChipTimersModel" "missedOf" "[I", Cond.fieldLink RX8 74 "ChipTimersModel" "readyOf" "[I", Cond.fieldLink RX8 71 "ChipTimersModel" "valueOf" "[I", Cond.fieldLink RX8 59 "ChipTimersModel" "catches" "[I", Cond.methodLink RX8 171 yX8_channels, Cond.instanceMethod yX8_channels, Cond.selects RX8 yX8_channels yX8_channels]
def wsX8_oneTick_r4 : List Cond := [Cond.code yX8_channels cX8_channels 3 none, Cond.fieldLink RX8 92 "ChipTimersModel" "sinceOf" "[I", Cond.fieldLink RX8 89 "ChipTimersModel" "levelOf" "[I", Cond.methodLink RX8 190 yX8_levelThen, Cond.instanceMethod yX8_levelThen, Cond.selects RX8 yX8_levelThen yX8_levelThen, Cond.code yX8_levelThen cX8_levelThen 4 (some .int), Cond.fieldLink RX8 80 "ChipTimersModel" "comparesTo" "[I", Cond.fieldLink RX8 86 "ChipTimersModel" "markOf" "[I", Cond.fieldLink RX8 83 "ChipTimersModel" "kindOf" "[I", Cond.methodLink RX8 180 yX8_sampleOf, Cond.instanceMethod yX8_sampleOf, Cond.selects RX8 yX8_sampleOf yX8_sampleOf, Cond.code yX8_sampleOf cX8_sampleOf 3 (some .int), Cond.fieldLink RX8 224 "ChipTimersModel" "how" "I", Cond.methodLink RX8 227 yX8_twisted, Cond.static yX8_twisted, Cond.code yX8_twisted cX8_twisted 1 (some .int), Cond.methodLink RX8 230 yX8_untwisted, Cond.static yX8_untwisted, Cond.code yX8_untwisted cX8_untwisted 3 (some .int), Cond.methodLink RX8 184 yX8_pins, Cond.instanceMethod yX8_pins, Cond.selects RX8 yX8_pins yX8_pins]
def wsX8_oneTick_r5 : List Cond := [Cond.code yX8_pins cX8_pins 3 none, Cond.fieldLink RX8 104 "ChipTimersModel" "pinLevel" "[I", Cond.methodLink RX8 205 yX8_pinThen, Cond.instanceMethod yX8_pinThen, Cond.selects RX8 yX8_pinThen yX8_pinThen, Cond.code yX8_pinThen cX8_pinThen 3 (some .int), Cond.fieldLink RX8 194 "ChipTimersModel" "isBraked" "Z", Cond.fieldLink RX8 101 "ChipTimersModel" "safeOf" "[I", Cond.fieldLink RX8 98 "ChipTimersModel" "polarityOf" "[I", Cond.methodLink RX8 198 yX8_isOn, Cond.instanceMethod yX8_isOn, Cond.selects RX8 yX8_isOn yX8_isOn, Cond.code yX8_isOn cX8_isOn 3 (some .boolean), Cond.fieldLink RX8 95 "ChipTimersModel" "deadOf" "[I", Cond.methodLink RX8 208 yX8_enters, Cond.instanceMethod yX8_enters, Cond.selects RX8 yX8_enters yX8_enters, Cond.code yX8_enters cX8_enters 3 none, Cond.fieldLink RX8 202 "ChipTimersModel" "entries" "I", Cond.fieldLink RX8 107 "ChipTimersModel" "entryTick" "[I", Cond.fieldLink RX8 110 "ChipTimersModel" "entryPin" "[I", Cond.fieldLink RX8 113 "ChipTimersModel" "entryLevel" "[I"]
def wsX8_oneTick : List Cond := .code yX8_oneTick cX8_oneTick 2 none :: ((wsX8_oneTick_r1 ++ (wsX8_oneTick_r2 ++ (wsX8_oneTick_r3 ++ (wsX8_oneTick_r4 ++ wsX8_oneTick_r5)))) ++ wsX80)
def wsX8_ticks_r1 : List Cond := [Cond.fieldLink RX8 159 "ChipTimersModel" "tick" "I", Cond.methodLink RX8 126 yX8_within, Cond.static yX8_within, Cond.initialized RX8, Cond.code yX8_within cX8_within 3 (some .boolean), Cond.methodLink RX8 187 yX8_oneTick, Cond.instanceMethod yX8_oneTick, Cond.selects RX8 yX8_oneTick yX8_oneTick, Cond.code yX8_oneTick cX8_oneTick 2 none, Cond.fieldLink RX8 22 "ChipTimersModel" "countOf" "[I", Cond.fieldLink RX8 156 "ChipTimersModel" "crossed" "I", Cond.fieldLink RX8 122 "ChipTimersModel" "period" "I", Cond.fieldLink RX8 174 "ChipTimersModel" "first" "I", Cond.fieldLink RX8 177 "ChipTimersModel" "second" "I", Cond.methodLink RX8 162 yX8_inputs, Cond.instanceMethod yX8_inputs, Cond.selects RX8 yX8_inputs yX8_inputs, Cond.code yX8_inputs cX8_inputs 2 none, Cond.fieldLink RX8 56 "ChipTimersModel" "edgeOf" "[I", Cond.fieldLink RX8 53 "ChipTimersModel" "runOf" "[I", Cond.fieldLink RX8 44 "ChipTimersModel" "rawOf" "[I", Cond.fieldLink RX8 47 "ChipTimersModel" "steadyOf" "[I", Cond.fieldLink RX8 50 "ChipTimersModel" "filterOf" "[I", Cond.methodLink RX8 165 yX8_counters]
def wsX8_ticks_r2 : List Cond := [Cond.instanceMethod yX8_counters, Cond.selects RX8 yX8_counters yX8_counters, Cond.code yX8_counters cX8_counters 2 none, Cond.fieldLink RX8 37 "ChipTimersModel" "hasStepped" "[Z", Cond.fieldLink RX8 41 "ChipTimersModel" "wentOver" "[Z", Cond.fieldLink RX8 25 "ChipTimersModel" "phaseOf" "[I", Cond.fieldLink RX8 16 "ChipTimersModel" "shareOf" "[I", Cond.methodLink RX8 150 yX8_hasPulse, Cond.instanceMethod yX8_hasPulse, Cond.selects RX8 yX8_hasPulse yX8_hasPulse, Cond.code yX8_hasPulse cX8_hasPulse 2 (some .boolean), Cond.fieldLink RX8 19 "ChipTimersModel" "sourceOf" "[I", Cond.methodLink RX8 153 yX8_steps, Cond.instanceMethod yX8_steps, Cond.selects RX8 yX8_steps yX8_steps, Cond.code yX8_steps cX8_steps 2 none, Cond.fieldLink RX8 7 "ChipTimersModel" "modeOf" "[I", Cond.methodLink RX8 141 yX8_stepsUp, Cond.instanceMethod yX8_stepsUp, Cond.selects RX8 yX8_stepsUp yX8_stepsUp, Cond.code yX8_stepsUp cX8_stepsUp 2 none, Cond.fieldLink RX8 13 "ChipTimersModel" "topOf" "[I", Cond.methodLink RX8 134 yX8_goesOver, Cond.instanceMethod yX8_goesOver]
def wsX8_ticks_r3 : List Cond := [Cond.selects RX8 yX8_goesOver yX8_goesOver, Cond.code yX8_goesOver cX8_goesOver 2 none, Cond.fieldLink RX8 31 "ChipTimersModel" "oversOf" "[I", Cond.methodLink RX8 138 yX8_takesTop, Cond.instanceMethod yX8_takesTop, Cond.selects RX8 yX8_takesTop yX8_takesTop, Cond.code yX8_takesTop cX8_takesTop 2 none, Cond.fieldLink RX8 34 "ChipTimersModel" "waitsOf" "[I", Cond.methodLink RX8 144 yX8_stepsDown, Cond.instanceMethod yX8_stepsDown, Cond.selects RX8 yX8_stepsDown yX8_stepsDown, Cond.code yX8_stepsDown cX8_stepsDown 2 none, Cond.methodLink RX8 147 yX8_stepsBoth, Cond.instanceMethod yX8_stepsBoth, Cond.selects RX8 yX8_stepsBoth yX8_stepsBoth, Cond.code yX8_stepsBoth cX8_stepsBoth 2 none, Cond.fieldLink RX8 28 "ChipTimersModel" "wayOf" "[I", Cond.methodLink RX8 168 yX8_catchers, Cond.instanceMethod yX8_catchers, Cond.selects RX8 yX8_catchers yX8_catchers, Cond.code yX8_catchers cX8_catchers 3 none, Cond.fieldLink RX8 62 "ChipTimersModel" "edgesOf" "[I", Cond.fieldLink RX8 68 "ChipTimersModel" "seenOf" "[I", Cond.fieldLink RX8 65 "ChipTimersModel" "everyOf" "[I"]
def wsX8_ticks_r4 : List Cond := [Cond.fieldLink RX8 77 "ChipTimersModel" "missedOf" "[I", Cond.fieldLink RX8 74 "ChipTimersModel" "readyOf" "[I", Cond.fieldLink RX8 71 "ChipTimersModel" "valueOf" "[I", Cond.fieldLink RX8 59 "ChipTimersModel" "catches" "[I", Cond.methodLink RX8 171 yX8_channels, Cond.instanceMethod yX8_channels, Cond.selects RX8 yX8_channels yX8_channels, Cond.code yX8_channels cX8_channels 3 none, Cond.fieldLink RX8 92 "ChipTimersModel" "sinceOf" "[I", Cond.fieldLink RX8 89 "ChipTimersModel" "levelOf" "[I", Cond.methodLink RX8 190 yX8_levelThen, Cond.instanceMethod yX8_levelThen, Cond.selects RX8 yX8_levelThen yX8_levelThen, Cond.code yX8_levelThen cX8_levelThen 4 (some .int), Cond.fieldLink RX8 80 "ChipTimersModel" "comparesTo" "[I", Cond.fieldLink RX8 86 "ChipTimersModel" "markOf" "[I", Cond.fieldLink RX8 83 "ChipTimersModel" "kindOf" "[I", Cond.methodLink RX8 180 yX8_sampleOf, Cond.instanceMethod yX8_sampleOf, Cond.selects RX8 yX8_sampleOf yX8_sampleOf, Cond.code yX8_sampleOf cX8_sampleOf 3 (some .int), Cond.fieldLink RX8 224 "ChipTimersModel" "how" "I", Cond.methodLink RX8 227 yX8_twisted, Cond.static yX8_twisted]
def wsX8_ticks_r5 : List Cond := [Cond.code yX8_twisted cX8_twisted 1 (some .int), Cond.methodLink RX8 230 yX8_untwisted, Cond.static yX8_untwisted, Cond.code yX8_untwisted cX8_untwisted 3 (some .int), Cond.methodLink RX8 184 yX8_pins, Cond.instanceMethod yX8_pins, Cond.selects RX8 yX8_pins yX8_pins, Cond.code yX8_pins cX8_pins 3 none, Cond.fieldLink RX8 104 "ChipTimersModel" "pinLevel" "[I", Cond.methodLink RX8 205 yX8_pinThen, Cond.instanceMethod yX8_pinThen, Cond.selects RX8 yX8_pinThen yX8_pinThen, Cond.code yX8_pinThen cX8_pinThen 3 (some .int), Cond.fieldLink RX8 194 "ChipTimersModel" "isBraked" "Z", Cond.fieldLink RX8 101 "ChipTimersModel" "safeOf" "[I", Cond.fieldLink RX8 98 "ChipTimersModel" "polarityOf" "[I", Cond.methodLink RX8 198 yX8_isOn, Cond.instanceMethod yX8_isOn, Cond.selects RX8 yX8_isOn yX8_isOn, Cond.code yX8_isOn cX8_isOn 3 (some .boolean), Cond.fieldLink RX8 95 "ChipTimersModel" "deadOf" "[I", Cond.methodLink RX8 208 yX8_enters, Cond.instanceMethod yX8_enters, Cond.selects RX8 yX8_enters yX8_enters]
def wsX8_ticks_r6 : List Cond := [Cond.code yX8_enters cX8_enters 3 none, Cond.fieldLink RX8 202 "ChipTimersModel" "entries" "I", Cond.fieldLink RX8 107 "ChipTimersModel" "entryTick" "[I", Cond.fieldLink RX8 110 "ChipTimersModel" "entryPin" "[I", Cond.fieldLink RX8 113 "ChipTimersModel" "entryLevel" "[I"]
def wsX8_ticks : List Cond := .code yX8_ticks cX8_ticks 3 (some .int) :: ((wsX8_ticks_r1 ++ (wsX8_ticks_r2 ++ (wsX8_ticks_r3 ++ (wsX8_ticks_r4 ++ (wsX8_ticks_r5 ++ wsX8_ticks_r6))))) ++ wsX80)
def wsX8_channel_r1 : List Cond := [Cond.fieldLink RX8 80 "ChipTimersModel" "comparesTo" "[I", Cond.fieldLink RX8 83 "ChipTimersModel" "kindOf" "[I", Cond.fieldLink RX8 86 "ChipTimersModel" "markOf" "[I", Cond.fieldLink RX8 89 "ChipTimersModel" "levelOf" "[I", Cond.fieldLink RX8 92 "ChipTimersModel" "sinceOf" "[I", Cond.methodLink RX8 130 yX8_isOne, Cond.static yX8_isOne, Cond.initialized RX8, Cond.code yX8_isOne cX8_isOne 1 (some .boolean), Cond.methodLink RX8 126 yX8_within, Cond.static yX8_within, Cond.code yX8_within cX8_within 3 (some .boolean), Cond.methodLink RX8 184 yX8_pins, Cond.instanceMethod yX8_pins, Cond.selects RX8 yX8_pins yX8_pins, Cond.code yX8_pins cX8_pins 3 none, Cond.fieldLink RX8 104 "ChipTimersModel" "pinLevel" "[I", Cond.methodLink RX8 205 yX8_pinThen, Cond.instanceMethod yX8_pinThen, Cond.selects RX8 yX8_pinThen yX8_pinThen, Cond.code yX8_pinThen cX8_pinThen 3 (some .int), Cond.fieldLink RX8 194 "ChipTimersModel" "isBraked" "Z", Cond.fieldLink RX8 101 "ChipTimersModel" "safeOf" "[I", Cond.fieldLink RX8 98 "ChipTimersModel" "polarityOf" "[I"]
def wsX8_channel_r2 : List Cond := [Cond.methodLink RX8 198 yX8_isOn, Cond.instanceMethod yX8_isOn, Cond.selects RX8 yX8_isOn yX8_isOn, Cond.code yX8_isOn cX8_isOn 3 (some .boolean), Cond.fieldLink RX8 95 "ChipTimersModel" "deadOf" "[I", Cond.methodLink RX8 208 yX8_enters, Cond.instanceMethod yX8_enters, Cond.selects RX8 yX8_enters yX8_enters, Cond.code yX8_enters cX8_enters 3 none, Cond.fieldLink RX8 202 "ChipTimersModel" "entries" "I", Cond.fieldLink RX8 107 "ChipTimersModel" "entryTick" "[I", Cond.fieldLink RX8 110 "ChipTimersModel" "entryPin" "[I", Cond.fieldLink RX8 113 "ChipTimersModel" "entryLevel" "[I", Cond.fieldLink RX8 159 "ChipTimersModel" "tick" "I"]
def wsX8_channel : List Cond := .code yX8_channel cX8_channel 5 (some .int) :: ((wsX8_channel_r1 ++ wsX8_channel_r2) ++ wsX80)
def wsX8_outputs_r1 : List Cond := [Cond.fieldLink RX8 95 "ChipTimersModel" "deadOf" "[I", Cond.fieldLink RX8 98 "ChipTimersModel" "polarityOf" "[I", Cond.fieldLink RX8 101 "ChipTimersModel" "safeOf" "[I", Cond.methodLink RX8 130 yX8_isOne, Cond.static yX8_isOne, Cond.initialized RX8, Cond.code yX8_isOne cX8_isOne 1 (some .boolean), Cond.methodLink RX8 126 yX8_within, Cond.static yX8_within, Cond.code yX8_within cX8_within 3 (some .boolean), Cond.methodLink RX8 184 yX8_pins, Cond.instanceMethod yX8_pins, Cond.selects RX8 yX8_pins yX8_pins, Cond.code yX8_pins cX8_pins 3 none, Cond.fieldLink RX8 104 "ChipTimersModel" "pinLevel" "[I", Cond.methodLink RX8 205 yX8_pinThen, Cond.instanceMethod yX8_pinThen, Cond.selects RX8 yX8_pinThen yX8_pinThen, Cond.code yX8_pinThen cX8_pinThen 3 (some .int), Cond.fieldLink RX8 194 "ChipTimersModel" "isBraked" "Z", Cond.methodLink RX8 198 yX8_isOn, Cond.instanceMethod yX8_isOn, Cond.selects RX8 yX8_isOn yX8_isOn, Cond.code yX8_isOn cX8_isOn 3 (some .boolean)]
def wsX8_outputs_r2 : List Cond := [Cond.fieldLink RX8 83 "ChipTimersModel" "kindOf" "[I", Cond.fieldLink RX8 89 "ChipTimersModel" "levelOf" "[I", Cond.fieldLink RX8 92 "ChipTimersModel" "sinceOf" "[I", Cond.methodLink RX8 208 yX8_enters, Cond.instanceMethod yX8_enters, Cond.selects RX8 yX8_enters yX8_enters, Cond.code yX8_enters cX8_enters 3 none, Cond.fieldLink RX8 202 "ChipTimersModel" "entries" "I", Cond.fieldLink RX8 107 "ChipTimersModel" "entryTick" "[I", Cond.fieldLink RX8 110 "ChipTimersModel" "entryPin" "[I", Cond.fieldLink RX8 113 "ChipTimersModel" "entryLevel" "[I", Cond.fieldLink RX8 159 "ChipTimersModel" "tick" "I"]
def wsX8_outputs : List Cond := .code yX8_outputs cX8_outputs 5 (some .int) :: ((wsX8_outputs_r1 ++ wsX8_outputs_r2) ++ wsX80)
def wsX8_onOf : List Cond := .code yX8_onOf cX8_onOf 2 (some .int) :: ([.methodLink RX8 198 yX8_isOn, .instanceMethod yX8_isOn, .selects RX8 yX8_isOn yX8_isOn, .initialized RX8, .code yX8_isOn cX8_isOn 3 (some .boolean), .fieldLink RX8 83 "ChipTimersModel" "kindOf" "[I", .fieldLink RX8 194 "ChipTimersModel" "isBraked" "Z", .fieldLink RX8 89 "ChipTimersModel" "levelOf" "[I", .fieldLink RX8 92 "ChipTimersModel" "sinceOf" "[I", .fieldLink RX8 95 "ChipTimersModel" "deadOf" "[I"] ++ wsX80)
def wsX8_ofChannel : List Cond := .code yX8_ofChannel cX8_ofChannel 3 (some .int) :: ([.fieldLink RX8 80 "ChipTimersModel" "comparesTo" "[I", .fieldLink RX8 83 "ChipTimersModel" "kindOf" "[I", .fieldLink RX8 86 "ChipTimersModel" "markOf" "[I", .fieldLink RX8 89 "ChipTimersModel" "levelOf" "[I", .fieldLink RX8 92 "ChipTimersModel" "sinceOf" "[I", .fieldLink RX8 95 "ChipTimersModel" "deadOf" "[I", .fieldLink RX8 98 "ChipTimersModel" "polarityOf" "[I", .fieldLink RX8 101 "ChipTimersModel" "safeOf" "[I", .methodLink RX8 130 yX8_isOne, .static yX8_isOne, .initialized RX8, .code yX8_isOne cX8_isOne 1 (some .boolean), .methodLink RX8 126 yX8_within, .static yX8_within, .code yX8_within cX8_within 3 (some .boolean), .methodLink RX8 211 yX8_onOf, .instanceMethod yX8_onOf, .selects RX8 yX8_onOf yX8_onOf, .code yX8_onOf cX8_onOf 2 (some .int), .methodLink RX8 198 yX8_isOn, .instanceMethod yX8_isOn, .selects RX8 yX8_isOn yX8_isOn, .code yX8_isOn cX8_isOn 3 (some .boolean), .fieldLink RX8 194 "ChipTimersModel" "isBraked" "Z"] ++ wsX80)
def wsX8_pin : List Cond := .code yX8_pin cX8_pin 2 (some .int) :: ([.fieldLink RX8 104 "ChipTimersModel" "pinLevel" "[I", .methodLink RX8 126 yX8_within, .static yX8_within, .initialized RX8, .code yX8_within cX8_within 3 (some .boolean)] ++ wsX80)
def wsX8_brakes_r1 : List Cond := [Cond.fieldLink RX8 194 "ChipTimersModel" "isBraked" "Z", Cond.methodLink RX8 184 yX8_pins, Cond.instanceMethod yX8_pins, Cond.selects RX8 yX8_pins yX8_pins, Cond.initialized RX8, Cond.code yX8_pins cX8_pins 3 none, Cond.fieldLink RX8 104 "ChipTimersModel" "pinLevel" "[I", Cond.methodLink RX8 205 yX8_pinThen, Cond.instanceMethod yX8_pinThen, Cond.selects RX8 yX8_pinThen yX8_pinThen, Cond.code yX8_pinThen cX8_pinThen 3 (some .int), Cond.fieldLink RX8 101 "ChipTimersModel" "safeOf" "[I", Cond.fieldLink RX8 98 "ChipTimersModel" "polarityOf" "[I", Cond.methodLink RX8 198 yX8_isOn, Cond.instanceMethod yX8_isOn, Cond.selects RX8 yX8_isOn yX8_isOn, Cond.code yX8_isOn cX8_isOn 3 (some .boolean), Cond.fieldLink RX8 83 "ChipTimersModel" "kindOf" "[I", Cond.fieldLink RX8 89 "ChipTimersModel" "levelOf" "[I", Cond.fieldLink RX8 92 "ChipTimersModel" "sinceOf" "[I", Cond.fieldLink RX8 95 "ChipTimersModel" "deadOf" "[I", Cond.methodLink RX8 208 yX8_enters, Cond.instanceMethod yX8_enters, Cond.selects RX8 yX8_enters yX8_enters]
def wsX8_brakes_r2 : List Cond := [Cond.code yX8_enters cX8_enters 3 none, Cond.fieldLink RX8 202 "ChipTimersModel" "entries" "I", Cond.fieldLink RX8 107 "ChipTimersModel" "entryTick" "[I", Cond.fieldLink RX8 110 "ChipTimersModel" "entryPin" "[I", Cond.fieldLink RX8 113 "ChipTimersModel" "entryLevel" "[I", Cond.fieldLink RX8 159 "ChipTimersModel" "tick" "I"]
def wsX8_brakes : List Cond := .code yX8_brakes cX8_brakes 3 (some .int) :: ((wsX8_brakes_r1 ++ wsX8_brakes_r2) ++ wsX80)
def wsX8_brake_r1 : List Cond := [Cond.methodLink RX8 214 yX8_brakes, Cond.instanceMethod yX8_brakes, Cond.selects RX8 yX8_brakes yX8_brakes, Cond.initialized RX8, Cond.code yX8_brakes cX8_brakes 3 (some .int), Cond.fieldLink RX8 194 "ChipTimersModel" "isBraked" "Z", Cond.methodLink RX8 184 yX8_pins, Cond.instanceMethod yX8_pins, Cond.selects RX8 yX8_pins yX8_pins, Cond.code yX8_pins cX8_pins 3 none, Cond.fieldLink RX8 104 "ChipTimersModel" "pinLevel" "[I", Cond.methodLink RX8 205 yX8_pinThen, Cond.instanceMethod yX8_pinThen, Cond.selects RX8 yX8_pinThen yX8_pinThen, Cond.code yX8_pinThen cX8_pinThen 3 (some .int), Cond.fieldLink RX8 101 "ChipTimersModel" "safeOf" "[I", Cond.fieldLink RX8 98 "ChipTimersModel" "polarityOf" "[I", Cond.methodLink RX8 198 yX8_isOn, Cond.instanceMethod yX8_isOn, Cond.selects RX8 yX8_isOn yX8_isOn, Cond.code yX8_isOn cX8_isOn 3 (some .boolean), Cond.fieldLink RX8 83 "ChipTimersModel" "kindOf" "[I", Cond.fieldLink RX8 89 "ChipTimersModel" "levelOf" "[I", Cond.fieldLink RX8 92 "ChipTimersModel" "sinceOf" "[I"]
def wsX8_brake_r2 : List Cond := [Cond.fieldLink RX8 95 "ChipTimersModel" "deadOf" "[I", Cond.methodLink RX8 208 yX8_enters, Cond.instanceMethod yX8_enters, Cond.selects RX8 yX8_enters yX8_enters, Cond.code yX8_enters cX8_enters 3 none, Cond.fieldLink RX8 202 "ChipTimersModel" "entries" "I", Cond.fieldLink RX8 107 "ChipTimersModel" "entryTick" "[I", Cond.fieldLink RX8 110 "ChipTimersModel" "entryPin" "[I", Cond.fieldLink RX8 113 "ChipTimersModel" "entryLevel" "[I", Cond.fieldLink RX8 159 "ChipTimersModel" "tick" "I"]
def wsX8_brake : List Cond := .code yX8_brake cX8_brake 1 (some .int) :: ((wsX8_brake_r1 ++ wsX8_brake_r2) ++ wsX80)
def wsX8_arm_r1 : List Cond := [Cond.methodLink RX8 214 yX8_brakes, Cond.instanceMethod yX8_brakes, Cond.selects RX8 yX8_brakes yX8_brakes, Cond.initialized RX8, Cond.code yX8_brakes cX8_brakes 3 (some .int), Cond.fieldLink RX8 194 "ChipTimersModel" "isBraked" "Z", Cond.methodLink RX8 184 yX8_pins, Cond.instanceMethod yX8_pins, Cond.selects RX8 yX8_pins yX8_pins, Cond.code yX8_pins cX8_pins 3 none, Cond.fieldLink RX8 104 "ChipTimersModel" "pinLevel" "[I", Cond.methodLink RX8 205 yX8_pinThen, Cond.instanceMethod yX8_pinThen, Cond.selects RX8 yX8_pinThen yX8_pinThen, Cond.code yX8_pinThen cX8_pinThen 3 (some .int), Cond.fieldLink RX8 101 "ChipTimersModel" "safeOf" "[I", Cond.fieldLink RX8 98 "ChipTimersModel" "polarityOf" "[I", Cond.methodLink RX8 198 yX8_isOn, Cond.instanceMethod yX8_isOn, Cond.selects RX8 yX8_isOn yX8_isOn, Cond.code yX8_isOn cX8_isOn 3 (some .boolean), Cond.fieldLink RX8 83 "ChipTimersModel" "kindOf" "[I", Cond.fieldLink RX8 89 "ChipTimersModel" "levelOf" "[I", Cond.fieldLink RX8 92 "ChipTimersModel" "sinceOf" "[I"]
def wsX8_arm_r2 : List Cond := [Cond.fieldLink RX8 95 "ChipTimersModel" "deadOf" "[I", Cond.methodLink RX8 208 yX8_enters, Cond.instanceMethod yX8_enters, Cond.selects RX8 yX8_enters yX8_enters, Cond.code yX8_enters cX8_enters 3 none, Cond.fieldLink RX8 202 "ChipTimersModel" "entries" "I", Cond.fieldLink RX8 107 "ChipTimersModel" "entryTick" "[I", Cond.fieldLink RX8 110 "ChipTimersModel" "entryPin" "[I", Cond.fieldLink RX8 113 "ChipTimersModel" "entryLevel" "[I", Cond.fieldLink RX8 159 "ChipTimersModel" "tick" "I"]
def wsX8_arm : List Cond := .code yX8_arm cX8_arm 1 (some .int) :: ((wsX8_arm_r1 ++ wsX8_arm_r2) ++ wsX80)
def wsX8_record : List Cond := .code yX8_record cX8_record 4 (some .int) :: ([.fieldLink RX8 202 "ChipTimersModel" "entries" "I", .fieldLink RX8 107 "ChipTimersModel" "entryTick" "[I", .fieldLink RX8 110 "ChipTimersModel" "entryPin" "[I", .fieldLink RX8 113 "ChipTimersModel" "entryLevel" "[I", .methodLink RX8 126 yX8_within, .static yX8_within, .initialized RX8, .code yX8_within cX8_within 3 (some .boolean)] ++ wsX80)
def wsX8_isPair : List Cond := .code yX8_isPair cX8_isPair 1 (some .boolean) :: ([.methodLink RX8 126 yX8_within, .static yX8_within, .initialized RX8, .code yX8_within cX8_within 3 (some .boolean)])
def wsX8_isWhole : List Cond := .code yX8_isWhole cX8_isWhole 3 (some .boolean) :: ([.fieldLink RX8 19 "ChipTimersModel" "sourceOf" "[I", .fieldLink RX8 16 "ChipTimersModel" "shareOf" "[I", .fieldLink RX8 7 "ChipTimersModel" "modeOf" "[I"] ++ wsX80)
def wsX8_holds : List Cond := .code yX8_holds cX8_holds 4 (some .int) :: ([.fieldLink RX8 116 "ChipTimersModel" "isHolding" "[Z", .fieldLink RX8 119 "ChipTimersModel" "heldBy" "[I", .methodLink RX8 218 yX8_isPair, .static yX8_isPair, .initialized RX8, .code yX8_isPair cX8_isPair 1 (some .boolean), .methodLink RX8 126 yX8_within, .static yX8_within, .code yX8_within cX8_within 3 (some .boolean)] ++ wsX80)
def wsX8_read : List Cond := .code yX8_read cX8_read 4 (some .int) :: ([.fieldLink RX8 119 "ChipTimersModel" "heldBy" "[I", .fieldLink RX8 22 "ChipTimersModel" "countOf" "[I", .fieldLink RX8 116 "ChipTimersModel" "isHolding" "[Z", .methodLink RX8 218 yX8_isPair, .static yX8_isPair, .initialized RX8, .code yX8_isPair cX8_isPair 1 (some .boolean), .methodLink RX8 126 yX8_within, .static yX8_within, .code yX8_within cX8_within 3 (some .boolean), .methodLink RX8 221 yX8_isWhole, .instanceMethod yX8_isWhole, .selects RX8 yX8_isWhole yX8_isWhole, .code yX8_isWhole cX8_isWhole 3 (some .boolean), .fieldLink RX8 19 "ChipTimersModel" "sourceOf" "[I", .fieldLink RX8 16 "ChipTimersModel" "shareOf" "[I", .fieldLink RX8 7 "ChipTimersModel" "modeOf" "[I"] ++ wsX80)
def wsX8_wide : List Cond := .code yX8_wide cX8_wide 2 (some .int) :: ([.fieldLink RX8 22 "ChipTimersModel" "countOf" "[I", .fieldLink RX8 13 "ChipTimersModel" "topOf" "[I", .methodLink RX8 218 yX8_isPair, .static yX8_isPair, .initialized RX8, .code yX8_isPair cX8_isPair 1 (some .boolean), .methodLink RX8 126 yX8_within, .static yX8_within, .code yX8_within cX8_within 3 (some .boolean), .methodLink RX8 221 yX8_isWhole, .instanceMethod yX8_isWhole, .selects RX8 yX8_isWhole yX8_isWhole, .code yX8_isWhole cX8_isWhole 3 (some .boolean), .fieldLink RX8 19 "ChipTimersModel" "sourceOf" "[I", .fieldLink RX8 16 "ChipTimersModel" "shareOf" "[I", .fieldLink RX8 7 "ChipTimersModel" "modeOf" "[I"] ++ wsX80)
def wsX8_slow : List Cond := .code yX8_slow cX8_slow 4 (some .int) :: ([.fieldLink RX8 122 "ChipTimersModel" "period" "I", .fieldLink RX8 156 "ChipTimersModel" "crossed" "I", .fieldLink RX8 224 "ChipTimersModel" "how" "I", .fieldLink RX8 174 "ChipTimersModel" "first" "I", .fieldLink RX8 177 "ChipTimersModel" "second" "I", .methodLink RX8 130 yX8_isOne, .static yX8_isOne, .initialized RX8, .code yX8_isOne cX8_isOne 1 (some .boolean), .methodLink RX8 126 yX8_within, .static yX8_within, .code yX8_within cX8_within 3 (some .boolean)] ++ wsX80)
def wsX8_crossed : List Cond := .code yX8_crossed cX8_crossed 2 (some .int) :: ([.fieldLink RX8 174 "ChipTimersModel" "first" "I", .fieldLink RX8 177 "ChipTimersModel" "second" "I", .fieldLink RX8 122 "ChipTimersModel" "period" "I", .fieldLink RX8 156 "ChipTimersModel" "crossed" "I", .fieldLink RX8 224 "ChipTimersModel" "how" "I"] ++ wsX80)
def wsX8_many : List Cond := .code yX8_many cX8_many 6 (some .int) :: ([.fieldLink RX8 74 "ChipTimersModel" "readyOf" "[I", .fieldLink RX8 31 "ChipTimersModel" "oversOf" "[I", .fieldLink RX8 159 "ChipTimersModel" "tick" "I", .fieldLink RX8 194 "ChipTimersModel" "isBraked" "Z", .fieldLink RX8 202 "ChipTimersModel" "entries" "I", .methodLink RX8 198 yX8_isOn, .instanceMethod yX8_isOn, .selects RX8 yX8_isOn yX8_isOn, .initialized RX8, .code yX8_isOn cX8_isOn 3 (some .boolean), .fieldLink RX8 83 "ChipTimersModel" "kindOf" "[I", .fieldLink RX8 89 "ChipTimersModel" "levelOf" "[I", .fieldLink RX8 92 "ChipTimersModel" "sinceOf" "[I", .fieldLink RX8 95 "ChipTimersModel" "deadOf" "[I"] ++ wsX80)
def wsJ9_min_7cf53 : List Cond := .code yJ9_min_7cf53 cJ9_min_7cf53 2 (some .int) :: ([])
def wsL_law_r1 : List Cond := [Cond.classLink RL 7 RX7, Cond.instantiable RX7 9, Cond.initialized RX7, Cond.classLink RL 10 RX8, Cond.instantiable RX8 45, Cond.initialized RX8, Cond.methodLink RL 9 yX7_init, Cond.instanceMethod yX7_init, Cond.code yX7_init cX7_init 2 none, Cond.methodLink RX7 3 objectInit, Cond.instanceMethod objectInit, Cond.code objectInit ⟨#[0xb1]⟩ 1 none, Cond.classLink RX7 9 RX2, Cond.fieldLink RX7 11 "ChipTimers" "counters" "[LChipTimers$Counter;", Cond.classLink RX7 15 RX3, Cond.fieldLink RX7 17 "ChipTimers" "inputs" "[LChipTimers$Input;", Cond.classLink RX7 21 RX0, Cond.fieldLink RX7 23 "ChipTimers" "catchers" "[LChipTimers$Catcher;", Cond.classLink RX7 27 RX1, Cond.fieldLink RX7 29 "ChipTimers" "channels" "[LChipTimers$Channel;", Cond.classLink RX7 33 RX4, Cond.fieldLink RX7 35 "ChipTimers" "pairs" "[LChipTimers$Pair;", Cond.classLink RX7 39 RX5, Cond.instantiable RX5 6]
def wsL_law_r2 : List Cond := [Cond.initialized RX5, Cond.fieldLink RX7 42 "ChipTimers" "pins" "LChipTimers$Pins;", Cond.classLink RX7 46 RX6, Cond.instantiable RX6 5, Cond.initialized RX6, Cond.fieldLink RX7 49 "ChipTimers" "slowClock" "LChipTimers$SlowClock;", Cond.instantiable RX2 11, Cond.initialized RX2, Cond.instantiable RX3 5, Cond.initialized RX3, Cond.instantiable RX0 7, Cond.initialized RX0, Cond.instantiable RX1 8, Cond.initialized RX1, Cond.instantiable RX4 2, Cond.initialized RX4, Cond.instanceMethod yX5_init, Cond.code yX5_init cX5_init 1 none, Cond.methodLink RX5 3 objectInit, Cond.arrayClass .int, Cond.fieldLink RX5 9 "ChipTimers$Pins" "levels" "[I", Cond.fieldLink RX5 15 "ChipTimers$Pins" "entryTicks" "[I", Cond.fieldLink RX5 18 "ChipTimers$Pins" "entryPins" "[I", Cond.fieldLink RX5 21 "ChipTimers$Pins" "entryLevels" "[I"]
def wsL_law_r3 : List Cond := [Cond.instanceMethod yX6_init, Cond.code yX6_init cX6_init 1 none, Cond.methodLink RX6 3 objectInit, Cond.fieldLink RX6 9 "ChipTimers$SlowClock" "period" "I", Cond.fieldLink RX6 15 "ChipTimers$SlowClock" "how" "I", Cond.instanceMethod yX2_init, Cond.code yX2_init cX2_init 1 none, Cond.methodLink RX2 3 objectInit, Cond.fieldLink RX2 9 "ChipTimers$Counter" "mode" "I", Cond.fieldLink RX2 15 "ChipTimers$Counter" "top" "I", Cond.fieldLink RX2 18 "ChipTimers$Counter" "share" "I", Cond.fieldLink RX2 21 "ChipTimers$Counter" "source" "I", Cond.fieldLink RX2 24 "ChipTimers$Counter" "way" "I", Cond.fieldLink RX2 27 "ChipTimers$Counter" "waitingTop" "I", Cond.instanceMethod yX3_init, Cond.code yX3_init cX3_init 1 none, Cond.methodLink RX3 3 objectInit, Cond.fieldLink RX3 9 "ChipTimers$Input" "filter" "I", Cond.instanceMethod yX0_init, Cond.code yX0_init cX0_init 1 none, Cond.methodLink RX0 3 objectInit, Cond.fieldLink RX0 9 "ChipTimers$Catcher" "every" "I", Cond.instanceMethod yX1_init, Cond.code yX1_init cX1_init 1 none]
def wsL_law_r4 : List Cond := [Cond.methodLink RX1 3 objectInit, Cond.fieldLink RX1 9 "ChipTimers$Channel" "mode" "I", Cond.instanceMethod yX4_init, Cond.code yX4_init cX4_init 1 none, Cond.methodLink RX4 3 objectInit, Cond.fieldLink RX4 9 "ChipTimers$Pair" "held" "I", Cond.methodLink RL 12 yX8_init, Cond.instanceMethod yX8_init, Cond.code yX8_init cX8_init 2 none, Cond.methodLink RX8 1 objectInit, Cond.fieldLink RX8 7 "ChipTimersModel" "modeOf" "[I", Cond.fieldLink RX8 13 "ChipTimersModel" "topOf" "[I", Cond.fieldLink RX8 16 "ChipTimersModel" "shareOf" "[I", Cond.fieldLink RX8 19 "ChipTimersModel" "sourceOf" "[I", Cond.fieldLink RX8 22 "ChipTimersModel" "countOf" "[I", Cond.fieldLink RX8 25 "ChipTimersModel" "phaseOf" "[I", Cond.fieldLink RX8 28 "ChipTimersModel" "wayOf" "[I", Cond.fieldLink RX8 31 "ChipTimersModel" "oversOf" "[I", Cond.fieldLink RX8 34 "ChipTimersModel" "waitsOf" "[I", Cond.arrayClass .boolean, Cond.fieldLink RX8 37 "ChipTimersModel" "hasStepped" "[Z", Cond.fieldLink RX8 41 "ChipTimersModel" "wentOver" "[Z", Cond.fieldLink RX8 44 "ChipTimersModel" "rawOf" "[I", Cond.fieldLink RX8 47 "ChipTimersModel" "steadyOf" "[I"]
def wsL_law_r5 : List Cond := [Cond.fieldLink RX8 50 "ChipTimersModel" "filterOf" "[I", Cond.fieldLink RX8 53 "ChipTimersModel" "runOf" "[I", Cond.fieldLink RX8 56 "ChipTimersModel" "edgeOf" "[I", Cond.fieldLink RX8 59 "ChipTimersModel" "catches" "[I", Cond.fieldLink RX8 62 "ChipTimersModel" "edgesOf" "[I", Cond.fieldLink RX8 65 "ChipTimersModel" "everyOf" "[I", Cond.fieldLink RX8 68 "ChipTimersModel" "seenOf" "[I", Cond.fieldLink RX8 71 "ChipTimersModel" "valueOf" "[I", Cond.fieldLink RX8 74 "ChipTimersModel" "readyOf" "[I", Cond.fieldLink RX8 77 "ChipTimersModel" "missedOf" "[I", Cond.fieldLink RX8 80 "ChipTimersModel" "comparesTo" "[I", Cond.fieldLink RX8 83 "ChipTimersModel" "kindOf" "[I", Cond.fieldLink RX8 86 "ChipTimersModel" "markOf" "[I", Cond.fieldLink RX8 89 "ChipTimersModel" "levelOf" "[I", Cond.fieldLink RX8 92 "ChipTimersModel" "sinceOf" "[I", Cond.fieldLink RX8 95 "ChipTimersModel" "deadOf" "[I", Cond.fieldLink RX8 98 "ChipTimersModel" "polarityOf" "[I", Cond.fieldLink RX8 101 "ChipTimersModel" "safeOf" "[I", Cond.fieldLink RX8 104 "ChipTimersModel" "pinLevel" "[I", Cond.fieldLink RX8 107 "ChipTimersModel" "entryTick" "[I", Cond.fieldLink RX8 110 "ChipTimersModel" "entryPin" "[I", Cond.fieldLink RX8 113 "ChipTimersModel" "entryLevel" "[I", Cond.fieldLink RX8 116 "ChipTimersModel" "isHolding" "[Z", Cond.fieldLink RX8 119 "ChipTimersModel" "heldBy" "[I"]
def wsL_law_r6 : List Cond := [Cond.fieldLink RX8 122 "ChipTimersModel" "period" "I", Cond.methodLink RL 13 yX7_counter, Cond.instanceMethod yX7_counter, Cond.selects RX7 yX7_counter yX7_counter, Cond.code yX7_counter cX7_counter 5 (some .int), Cond.methodLink RX7 58 yX7_isOneOf, Cond.static yX7_isOneOf, Cond.code yX7_isOneOf cX7_isOneOf 2 (some .boolean), Cond.methodLink RX7 62 yX7_within, Cond.static yX7_within, Cond.code yX7_within cX7_within 3 (some .boolean), Cond.methodLink RX7 66 yX2_setUp, Cond.instanceMethod yX2_setUp, Cond.selects RX2 yX2_setUp yX2_setUp, Cond.code yX2_setUp cX2_setUp 4 none, Cond.fieldLink RX2 30 "ChipTimers$Counter" "count" "I", Cond.fieldLink RX2 33 "ChipTimers$Counter" "phase" "I", Cond.fieldLink RX2 36 "ChipTimers$Counter" "overs" "I", Cond.methodLink RL 17 yX8_counter, Cond.instanceMethod yX8_counter, Cond.selects RX8 yX8_counter yX8_counter, Cond.code yX8_counter cX8_counter 5 (some .int), Cond.methodLink RX8 130 yX8_isOne, Cond.static yX8_isOne]
def wsL_law_r7 : List Cond := [Cond.code yX8_isOne cX8_isOne 1 (some .boolean), Cond.methodLink RX8 126 yX8_within, Cond.static yX8_within, Cond.code yX8_within cX8_within 3 (some .boolean), Cond.methodLink RL 18 yX7_source, Cond.instanceMethod yX7_source, Cond.selects RX7 yX7_source yX7_source, Cond.code yX7_source cX7_source 4 (some .int), Cond.fieldLink RX7 70 "ChipTimers$Counter" "source" "I", Cond.methodLink RL 22 yX8_source, Cond.instanceMethod yX8_source, Cond.selects RX8 yX8_source yX8_source, Cond.code yX8_source cX8_source 4 (some .int), Cond.methodLink RL 23 yX7_count, Cond.instanceMethod yX7_count, Cond.selects RX7 yX7_count yX7_count, Cond.code yX7_count cX7_count 4 (some .int), Cond.fieldLink RX7 74 "ChipTimers$Counter" "top" "I", Cond.fieldLink RX7 77 "ChipTimers$Counter" "count" "I", Cond.methodLink RL 26 yX8_count, Cond.instanceMethod yX8_count, Cond.selects RX8 yX8_count yX8_count, Cond.code yX8_count cX8_count 4 (some .int), Cond.methodLink RL 27 yX7_top]
def wsL_law_r8 : List Cond := [Cond.instanceMethod yX7_top, Cond.selects RX7 yX7_top yX7_top, Cond.code yX7_top cX7_top 3 (some .int), Cond.fieldLink RX7 80 "ChipTimers$Counter" "waitingTop" "I", Cond.methodLink RL 30 yX8_top, Cond.instanceMethod yX8_top, Cond.selects RX8 yX8_top yX8_top, Cond.code yX8_top cX8_top 3 (some .int), Cond.methodLink RL 31 yX7_ofCounter, Cond.instanceMethod yX7_ofCounter, Cond.selects RX7 yX7_ofCounter yX7_ofCounter, Cond.code yX7_ofCounter cX7_ofCounter 3 (some .int), Cond.methodLink RX7 83 yX2_tell, Cond.instanceMethod yX2_tell, Cond.selects RX2 yX2_tell yX2_tell, Cond.code yX2_tell cX2_tell 2 (some .int), Cond.methodLink RL 34 yX8_ofCounter, Cond.instanceMethod yX8_ofCounter, Cond.selects RX8 yX8_ofCounter yX8_ofCounter, Cond.code yX8_ofCounter cX8_ofCounter 3 (some .int), Cond.methodLink RL 35 yX7_input, Cond.instanceMethod yX7_input, Cond.selects RX7 yX7_input yX7_input, Cond.code yX7_input cX7_input 4 (some .int)]
def wsL_law_r9 : List Cond := [Cond.fieldLink RX7 87 "ChipTimers$Input" "raw" "I", Cond.methodLink RL 38 yX8_input, Cond.instanceMethod yX8_input, Cond.selects RX8 yX8_input yX8_input, Cond.code yX8_input cX8_input 4 (some .int), Cond.methodLink RL 39 yX7_filter, Cond.instanceMethod yX7_filter, Cond.selects RX7 yX7_filter yX7_filter, Cond.code yX7_filter cX7_filter 4 (some .int), Cond.fieldLink RX7 90 "ChipTimers$Input" "filter" "I", Cond.methodLink RL 42 yX8_filter, Cond.instanceMethod yX8_filter, Cond.selects RX8 yX8_filter yX8_filter, Cond.code yX8_filter cX8_filter 4 (some .int), Cond.methodLink RL 43 yX7_ofInput, Cond.instanceMethod yX7_ofInput, Cond.selects RX7 yX7_ofInput yX7_ofInput, Cond.code yX7_ofInput cX7_ofInput 3 (some .int), Cond.methodLink RX7 93 yX3_tell, Cond.instanceMethod yX3_tell, Cond.selects RX3 yX3_tell yX3_tell, Cond.code yX3_tell cX3_tell 2 (some .int), Cond.fieldLink RX3 18 "ChipTimers$Input" "raw" "I", Cond.fieldLink RX3 21 "ChipTimers$Input" "steady" "I"]
def wsL_law_r10 : List Cond := [Cond.fieldLink RX3 24 "ChipTimers$Input" "run" "I", Cond.methodLink RL 46 yX8_ofInput, Cond.instanceMethod yX8_ofInput, Cond.selects RX8 yX8_ofInput yX8_ofInput, Cond.code yX8_ofInput cX8_ofInput 3 (some .int), Cond.methodLink RL 47 yX7_catcher, Cond.instanceMethod yX7_catcher, Cond.selects RX7 yX7_catcher yX7_catcher, Cond.code yX7_catcher cX7_catcher 5 (some .int), Cond.methodLink RX7 94 yX0_setUp, Cond.instanceMethod yX0_setUp, Cond.selects RX0 yX0_setUp yX0_setUp, Cond.code yX0_setUp cX0_setUp 4 none, Cond.fieldLink RX0 15 "ChipTimers$Catcher" "counter" "I", Cond.fieldLink RX0 18 "ChipTimers$Catcher" "edges" "I", Cond.fieldLink RX0 21 "ChipTimers$Catcher" "seen" "I", Cond.fieldLink RX0 24 "ChipTimers$Catcher" "value" "I", Cond.fieldLink RX0 27 "ChipTimers$Catcher" "ready" "I", Cond.fieldLink RX0 30 "ChipTimers$Catcher" "missed" "I", Cond.methodLink RL 50 yX8_catcher, Cond.instanceMethod yX8_catcher, Cond.selects RX8 yX8_catcher yX8_catcher, Cond.code yX8_catcher cX8_catcher 5 (some .int), Cond.methodLink RL 51 yX7_taken]
def wsL_law_r11 : List Cond := [Cond.instanceMethod yX7_taken, Cond.selects RX7 yX7_taken yX7_taken, Cond.code yX7_taken cX7_taken 2 (some .int), Cond.methodLink RX7 95 yX0_handOver, Cond.instanceMethod yX0_handOver, Cond.selects RX0 yX0_handOver yX0_handOver, Cond.code yX0_handOver cX0_handOver 2 (some .int), Cond.methodLink RL 55 yX8_taken, Cond.instanceMethod yX8_taken, Cond.selects RX8 yX8_taken yX8_taken, Cond.code yX8_taken cX8_taken 2 (some .int), Cond.methodLink RL 56 yX7_ofCatcher, Cond.instanceMethod yX7_ofCatcher, Cond.selects RX7 yX7_ofCatcher yX7_ofCatcher, Cond.code yX7_ofCatcher cX7_ofCatcher 3 (some .int), Cond.methodLink RX7 99 yX0_tell, Cond.instanceMethod yX0_tell, Cond.selects RX0 yX0_tell yX0_tell, Cond.code yX0_tell cX0_tell 2 (some .int), Cond.methodLink RL 59 yX8_ofCatcher, Cond.instanceMethod yX8_ofCatcher, Cond.selects RX8 yX8_ofCatcher yX8_ofCatcher, Cond.code yX8_ofCatcher cX8_ofCatcher 3 (some .int), Cond.methodLink RL 60 yX7_ticks]
def wsL_law_r12 : List Cond := [Cond.instanceMethod yX7_ticks, Cond.selects RX7 yX7_ticks yX7_ticks, Cond.code yX7_ticks cX7_ticks 3 (some .int), Cond.fieldLink RX7 103 "ChipTimers" "tickCount" "I", Cond.methodLink RX7 100 yX7_runTick, Cond.instanceMethod yX7_runTick, Cond.selects RX7 yX7_runTick yX7_runTick, Cond.code yX7_runTick cX7_runTick 3 none, Cond.fieldLink RX7 157 "ChipTimers$SlowClock" "counter" "I", Cond.fieldLink RX7 170 "ChipTimers$Input" "edge" "I", Cond.fieldLink RX7 173 "ChipTimers$Catcher" "counter" "I", Cond.fieldLink RX7 178 "ChipTimers$Channel" "counter" "I", Cond.fieldLink RX7 183 "ChipTimers$SlowClock" "period" "I", Cond.methodLink RX7 160 yX3_look, Cond.instanceMethod yX3_look, Cond.selects RX3 yX3_look yX3_look, Cond.code yX3_look cX3_look 1 none, Cond.fieldLink RX3 15 "ChipTimers$Input" "edge" "I", Cond.methodLink RX7 163 yX7_hasPulse, Cond.instanceMethod yX7_hasPulse, Cond.selects RX7 yX7_hasPulse yX7_hasPulse, Cond.code yX7_hasPulse cX7_hasPulse 2 (some .boolean), Cond.fieldLink RX7 189 "ChipTimers$Counter" "wentOver" "Z", Cond.methodLink RX7 166 yX2_pass]
def wsL_law_r13 : List Cond := [Cond.instanceMethod yX2_pass, Cond.selects RX2 yX2_pass yX2_pass, Cond.code yX2_pass cX2_pass 2 none, Cond.fieldLink RX2 39 "ChipTimers$Counter" "wentOver" "Z", Cond.fieldLink RX2 43 "ChipTimers$Counter" "stepped" "Z", Cond.methodLink RX2 46 yX2_step, Cond.instanceMethod yX2_step, Cond.selects RX2 yX2_step yX2_step, Cond.code yX2_step cX2_step 1 none, Cond.methodLink RX2 49 yX2_stepUp, Cond.instanceMethod yX2_stepUp, Cond.selects RX2 yX2_stepUp yX2_stepUp, Cond.code yX2_stepUp cX2_stepUp 1 none, Cond.methodLink RX2 58 yX2_goOver, Cond.instanceMethod yX2_goOver, Cond.selects RX2 yX2_goOver yX2_goOver, Cond.code yX2_goOver cX2_goOver 1 none, Cond.methodLink RX2 61 yX2_takeWaitingTop, Cond.instanceMethod yX2_takeWaitingTop, Cond.selects RX2 yX2_takeWaitingTop yX2_takeWaitingTop, Cond.code yX2_takeWaitingTop cX2_takeWaitingTop 1 none, Cond.methodLink RX2 52 yX2_stepDown, Cond.instanceMethod yX2_stepDown, Cond.selects RX2 yX2_stepDown yX2_stepDown]
def wsL_law_r14 : List Cond := [Cond.code yX2_stepDown cX2_stepDown 1 none, Cond.methodLink RX2 55 yX2_stepBothWays, Cond.instanceMethod yX2_stepBothWays, Cond.selects RX2 yX2_stepBothWays yX2_stepBothWays, Cond.code yX2_stepBothWays cX2_stepBothWays 1 none, Cond.methodLink RX7 174 yX0_notice, Cond.instanceMethod yX0_notice, Cond.selects RX0 yX0_notice yX0_notice, Cond.code yX0_notice cX0_notice 3 none, Cond.methodLink RX7 179 yX1_follow, Cond.instanceMethod yX1_follow, Cond.selects RX1 yX1_follow yX1_follow, Cond.code yX1_follow cX1_follow 3 none, Cond.fieldLink RX1 21 "ChipTimers$Channel" "level" "I", Cond.fieldLink RX1 24 "ChipTimers$Channel" "since" "I", Cond.methodLink RX1 40 Lib.Math.min.name, Cond.static Lib.Math.min.name, Cond.initialized "java/lang/Math", Cond.code Lib.Math.min.name Lib.Math.min.code 2 (some .int), Cond.methodLink RX1 36 yX1_nextLevel, Cond.instanceMethod yX1_nextLevel, Cond.selects RX1 yX1_nextLevel yX1_nextLevel, Cond.code yX1_nextLevel cX1_nextLevel 3 (some .int), Cond.fieldLink RX1 46 "ChipTimers$Counter" "stepped" "Z"]
def wsL_law_r15 : List Cond := [Cond.fieldLink RX1 52 "ChipTimers$Counter" "count" "I", Cond.fieldLink RX1 18 "ChipTimers$Channel" "mark" "I", Cond.methodLink RX7 186 yX6_sample, Cond.instanceMethod yX6_sample, Cond.selects RX6 yX6_sample yX6_sample, Cond.code yX6_sample cX6_sample 3 none, Cond.fieldLink RX6 21 "ChipTimers$SlowClock" "first" "I", Cond.fieldLink RX6 24 "ChipTimers$SlowClock" "second" "I", Cond.methodLink RX6 27 yX6_twist, Cond.static yX6_twist, Cond.code yX6_twist cX6_twist 1 (some .int), Cond.methodLink RX6 31 yX6_untwist, Cond.static yX6_untwist, Cond.code yX6_untwist cX6_untwist 2 (some .int), Cond.methodLink RX7 107 yX7_workOutPins, Cond.instanceMethod yX7_workOutPins, Cond.selects RX7 yX7_workOutPins yX7_workOutPins, Cond.code yX7_workOutPins cX7_workOutPins 3 none, Cond.fieldLink RX7 117 "ChipTimers" "braked" "Z", Cond.methodLink RX7 192 yX1_pinLevel, Cond.instanceMethod yX1_pinLevel, Cond.selects RX1 yX1_pinLevel yX1_pinLevel, Cond.code yX1_pinLevel cX1_pinLevel 4 (some .int), Cond.fieldLink RX1 33 "ChipTimers$Channel" "safe" "I"]
def wsL_law_r16 : List Cond := [Cond.fieldLink RX1 30 "ChipTimers$Channel" "polarity" "I", Cond.methodLink RX1 55 yX1_outputsOn, Cond.instanceMethod yX1_outputsOn, Cond.selects RX1 yX1_outputsOn yX1_outputsOn, Cond.code yX1_outputsOn cX1_outputsOn 2 (some .int), Cond.fieldLink RX1 27 "ChipTimers$Channel" "dead" "I", Cond.methodLink RX7 195 yX5_drive, Cond.instanceMethod yX5_drive, Cond.selects RX5 yX5_drive yX5_drive, Cond.code yX5_drive cX5_drive 4 none, Cond.fieldLink RX5 24 "ChipTimers$Pins" "next" "I", Cond.fieldLink RX5 28 "ChipTimers$Pins" "entries" "I", Cond.methodLink RX5 31 Lib.Math.min.name, Cond.methodLink RL 63 yX8_ticks, Cond.instanceMethod yX8_ticks, Cond.selects RX8 yX8_ticks yX8_ticks, Cond.code yX8_ticks cX8_ticks 3 (some .int), Cond.fieldLink RX8 159 "ChipTimersModel" "tick" "I", Cond.methodLink RX8 187 yX8_oneTick, Cond.instanceMethod yX8_oneTick, Cond.selects RX8 yX8_oneTick yX8_oneTick, Cond.code yX8_oneTick cX8_oneTick 2 none, Cond.fieldLink RX8 156 "ChipTimersModel" "crossed" "I", Cond.fieldLink RX8 174 "ChipTimersModel" "first" "I"]
def wsL_law_r17 : List Cond := [Cond.fieldLink RX8 177 "ChipTimersModel" "second" "I", Cond.methodLink RX8 162 yX8_inputs, Cond.instanceMethod yX8_inputs, Cond.selects RX8 yX8_inputs yX8_inputs, Cond.code yX8_inputs cX8_inputs 2 none, Cond.methodLink RX8 165 yX8_counters, Cond.instanceMethod yX8_counters, Cond.selects RX8 yX8_counters yX8_counters, Cond.code yX8_counters cX8_counters 2 none, Cond.methodLink RX8 150 yX8_hasPulse, Cond.instanceMethod yX8_hasPulse, Cond.selects RX8 yX8_hasPulse yX8_hasPulse, Cond.code yX8_hasPulse cX8_hasPulse 2 (some .boolean), Cond.methodLink RX8 153 yX8_steps, Cond.instanceMethod yX8_steps, Cond.selects RX8 yX8_steps yX8_steps, Cond.code yX8_steps cX8_steps 2 none, Cond.methodLink RX8 141 yX8_stepsUp, Cond.instanceMethod yX8_stepsUp, Cond.selects RX8 yX8_stepsUp yX8_stepsUp, Cond.code yX8_stepsUp cX8_stepsUp 2 none, Cond.methodLink RX8 134 yX8_goesOver, Cond.instanceMethod yX8_goesOver, Cond.selects RX8 yX8_goesOver yX8_goesOver]
def wsL_law_r18 : List Cond := [Cond.code yX8_goesOver cX8_goesOver 2 none, Cond.methodLink RX8 138 yX8_takesTop, Cond.instanceMethod yX8_takesTop, Cond.selects RX8 yX8_takesTop yX8_takesTop, Cond.code yX8_takesTop cX8_takesTop 2 none, Cond.methodLink RX8 144 yX8_stepsDown, Cond.instanceMethod yX8_stepsDown, Cond.selects RX8 yX8_stepsDown yX8_stepsDown, Cond.code yX8_stepsDown cX8_stepsDown 2 none, Cond.methodLink RX8 147 yX8_stepsBoth, Cond.instanceMethod yX8_stepsBoth, Cond.selects RX8 yX8_stepsBoth yX8_stepsBoth, Cond.code yX8_stepsBoth cX8_stepsBoth 2 none, Cond.methodLink RX8 168 yX8_catchers, Cond.instanceMethod yX8_catchers, Cond.selects RX8 yX8_catchers yX8_catchers, Cond.code yX8_catchers cX8_catchers 3 none, Cond.methodLink RX8 171 yX8_channels, Cond.instanceMethod yX8_channels, Cond.selects RX8 yX8_channels yX8_channels, Cond.code yX8_channels cX8_channels 3 none, Cond.methodLink RX8 190 yX8_levelThen, Cond.instanceMethod yX8_levelThen, Cond.selects RX8 yX8_levelThen yX8_levelThen]
def wsL_law_r19 : List Cond := [Cond.code yX8_levelThen cX8_levelThen 4 (some .int), Cond.methodLink RX8 180 yX8_sampleOf, Cond.instanceMethod yX8_sampleOf, Cond.selects RX8 yX8_sampleOf yX8_sampleOf, Cond.code yX8_sampleOf cX8_sampleOf 3 (some .int), Cond.fieldLink RX8 224 "ChipTimersModel" "how" "I", Cond.methodLink RX8 227 yX8_twisted, Cond.static yX8_twisted, Cond.code yX8_twisted cX8_twisted 1 (some .int), Cond.methodLink RX8 230 yX8_untwisted, Cond.static yX8_untwisted, Cond.code yX8_untwisted cX8_untwisted 3 (some .int), Cond.methodLink RX8 184 yX8_pins, Cond.instanceMethod yX8_pins, Cond.selects RX8 yX8_pins yX8_pins, Cond.code yX8_pins cX8_pins 3 none, Cond.methodLink RX8 205 yX8_pinThen, Cond.instanceMethod yX8_pinThen, Cond.selects RX8 yX8_pinThen yX8_pinThen, Cond.code yX8_pinThen cX8_pinThen 3 (some .int), Cond.fieldLink RX8 194 "ChipTimersModel" "isBraked" "Z", Cond.methodLink RX8 198 yX8_isOn, Cond.instanceMethod yX8_isOn, Cond.selects RX8 yX8_isOn yX8_isOn]
def wsL_law_r20 : List Cond := [Cond.code yX8_isOn cX8_isOn 3 (some .boolean), Cond.methodLink RX8 208 yX8_enters, Cond.instanceMethod yX8_enters, Cond.selects RX8 yX8_enters yX8_enters, Cond.code yX8_enters cX8_enters 3 none, Cond.fieldLink RX8 202 "ChipTimersModel" "entries" "I", Cond.methodLink RL 64 yX7_channel, Cond.instanceMethod yX7_channel, Cond.selects RX7 yX7_channel yX7_channel, Cond.code yX7_channel cX7_channel 5 (some .int), Cond.methodLink RX7 106 yX1_setUp, Cond.instanceMethod yX1_setUp, Cond.selects RX1 yX1_setUp yX1_setUp, Cond.code yX1_setUp cX1_setUp 4 none, Cond.fieldLink RX1 15 "ChipTimers$Channel" "counter" "I", Cond.methodLink RL 67 yX8_channel, Cond.instanceMethod yX8_channel, Cond.selects RX8 yX8_channel yX8_channel, Cond.code yX8_channel cX8_channel 5 (some .int), Cond.methodLink RL 68 yX7_outputs, Cond.instanceMethod yX7_outputs, Cond.selects RX7 yX7_outputs yX7_outputs, Cond.code yX7_outputs cX7_outputs 5 (some .int), Cond.methodLink RX7 110 yX7_isSetOfOutputs]
def wsL_law_r21 : List Cond := [Cond.static yX7_isSetOfOutputs, Cond.code yX7_isSetOfOutputs cX7_isSetOfOutputs 1 (some .boolean), Cond.methodLink RX7 114 yX1_shapeOutputs, Cond.instanceMethod yX1_shapeOutputs, Cond.selects RX1 yX1_shapeOutputs yX1_shapeOutputs, Cond.code yX1_shapeOutputs cX1_shapeOutputs 4 none, Cond.methodLink RL 71 yX8_outputs, Cond.instanceMethod yX8_outputs, Cond.selects RX8 yX8_outputs yX8_outputs, Cond.code yX8_outputs cX8_outputs 5 (some .int), Cond.methodLink RL 72 yX7_ofChannel, Cond.instanceMethod yX7_ofChannel, Cond.selects RX7 yX7_ofChannel yX7_ofChannel, Cond.code yX7_ofChannel cX7_ofChannel 3 (some .int), Cond.methodLink RX7 121 yX1_tell, Cond.instanceMethod yX1_tell, Cond.selects RX1 yX1_tell yX1_tell, Cond.code yX1_tell cX1_tell 3 (some .int), Cond.methodLink RL 75 yX8_ofChannel, Cond.instanceMethod yX8_ofChannel, Cond.selects RX8 yX8_ofChannel yX8_ofChannel, Cond.code yX8_ofChannel cX8_ofChannel 3 (some .int), Cond.methodLink RX8 211 yX8_onOf, Cond.instanceMethod yX8_onOf]
def wsL_law_r22 : List Cond := [Cond.selects RX8 yX8_onOf yX8_onOf, Cond.code yX8_onOf cX8_onOf 2 (some .int), Cond.methodLink RL 76 yX7_pin, Cond.instanceMethod yX7_pin, Cond.selects RX7 yX7_pin yX7_pin, Cond.code yX7_pin cX7_pin 2 (some .int), Cond.fieldLink RX7 124 "ChipTimers$Pins" "levels" "[I", Cond.methodLink RL 79 yX8_pin, Cond.instanceMethod yX8_pin, Cond.selects RX8 yX8_pin yX8_pin, Cond.code yX8_pin cX8_pin 2 (some .int), Cond.methodLink RL 80 yX7_brake, Cond.instanceMethod yX7_brake, Cond.selects RX7 yX7_brake yX7_brake, Cond.code yX7_brake cX7_brake 2 (some .int), Cond.methodLink RL 84 yX8_brake, Cond.instanceMethod yX8_brake, Cond.selects RX8 yX8_brake yX8_brake, Cond.code yX8_brake cX8_brake 1 (some .int), Cond.methodLink RX8 214 yX8_brakes, Cond.instanceMethod yX8_brakes, Cond.selects RX8 yX8_brakes yX8_brakes, Cond.code yX8_brakes cX8_brakes 3 (some .int), Cond.methodLink RL 85 yX7_arm]
def wsL_law_r23 : List Cond := [Cond.instanceMethod yX7_arm, Cond.selects RX7 yX7_arm yX7_arm, Cond.code yX7_arm cX7_arm 2 (some .int), Cond.methodLink RL 88 yX8_arm, Cond.instanceMethod yX8_arm, Cond.selects RX8 yX8_arm yX8_arm, Cond.code yX8_arm cX8_arm 1 (some .int), Cond.methodLink RL 89 yX7_record, Cond.instanceMethod yX7_record, Cond.selects RX7 yX7_record yX7_record, Cond.code yX7_record cX7_record 3 (some .int), Cond.methodLink RX7 128 yX5_tell, Cond.instanceMethod yX5_tell, Cond.selects RX5 yX5_tell yX5_tell, Cond.code yX5_tell cX5_tell 4 (some .int), Cond.methodLink RL 92 yX8_record, Cond.instanceMethod yX8_record, Cond.selects RX8 yX8_record yX8_record, Cond.code yX8_record cX8_record 4 (some .int), Cond.methodLink RL 93 yX7_holds, Cond.instanceMethod yX7_holds, Cond.selects RX7 yX7_holds yX7_holds, Cond.code yX7_holds cX7_holds 4 (some .int), Cond.fieldLink RX7 131 "ChipTimers$Pair" "holding" "I"]
def wsL_law_r24 : List Cond := [Cond.fieldLink RX7 134 "ChipTimers$Pair" "held" "I", Cond.methodLink RL 96 yX8_holds, Cond.instanceMethod yX8_holds, Cond.selects RX8 yX8_holds yX8_holds, Cond.code yX8_holds cX8_holds 4 (some .int), Cond.methodLink RX8 218 yX8_isPair, Cond.static yX8_isPair, Cond.code yX8_isPair cX8_isPair 1 (some .boolean), Cond.methodLink RL 97 yX7_read, Cond.instanceMethod yX7_read, Cond.selects RX7 yX7_read yX7_read, Cond.code yX7_read cX7_read 4 (some .int), Cond.methodLink RX7 137 yX7_isWhole, Cond.instanceMethod yX7_isWhole, Cond.selects RX7 yX7_isWhole yX7_isWhole, Cond.code yX7_isWhole cX7_isWhole 4 (some .boolean), Cond.fieldLink RX7 198 "ChipTimers$Counter" "share" "I", Cond.fieldLink RX7 201 "ChipTimers$Counter" "mode" "I", Cond.methodLink RX7 140 yX4_takeHigh, Cond.instanceMethod yX4_takeHigh, Cond.selects RX4 yX4_takeHigh yX4_takeHigh, Cond.code yX4_takeHigh cX4_takeHigh 3 (some .int), Cond.fieldLink RX4 15 "ChipTimers$Pair" "holding" "I", Cond.methodLink RL 100 yX8_read]
def wsL_law_r25 : List Cond := [Cond.instanceMethod yX8_read, Cond.selects RX8 yX8_read yX8_read, Cond.code yX8_read cX8_read 4 (some .int), Cond.methodLink RX8 221 yX8_isWhole, Cond.instanceMethod yX8_isWhole, Cond.selects RX8 yX8_isWhole yX8_isWhole, Cond.code yX8_isWhole cX8_isWhole 3 (some .boolean), Cond.methodLink RL 101 yX7_wide, Cond.instanceMethod yX7_wide, Cond.selects RX7 yX7_wide yX7_wide, Cond.code yX7_wide cX7_wide 4 (some .int), Cond.methodLink RL 104 yX8_wide, Cond.instanceMethod yX8_wide, Cond.selects RX8 yX8_wide yX8_wide, Cond.code yX8_wide cX8_wide 2 (some .int), Cond.methodLink RL 105 yX7_slow, Cond.instanceMethod yX7_slow, Cond.selects RX7 yX7_slow yX7_slow, Cond.code yX7_slow cX7_slow 4 (some .int), Cond.methodLink RX7 143 yX6_setUp, Cond.instanceMethod yX6_setUp, Cond.selects RX6 yX6_setUp yX6_setUp, Cond.code yX6_setUp cX6_setUp 4 none, Cond.fieldLink RX6 18 "ChipTimers$SlowClock" "counter" "I"]
def wsL_law_r26 : List Cond := [Cond.methodLink RL 109 yX8_slow, Cond.instanceMethod yX8_slow, Cond.selects RX8 yX8_slow yX8_slow, Cond.code yX8_slow cX8_slow 4 (some .int), Cond.methodLink RL 110 yX7_crossed, Cond.instanceMethod yX7_crossed, Cond.selects RX7 yX7_crossed yX7_crossed, Cond.code yX7_crossed cX7_crossed 2 (some .int), Cond.methodLink RX7 144 yX6_tell, Cond.instanceMethod yX6_tell, Cond.selects RX6 yX6_tell yX6_tell, Cond.code yX6_tell cX6_tell 2 (some .int), Cond.methodLink RL 113 yX8_crossed, Cond.instanceMethod yX8_crossed, Cond.selects RX8 yX8_crossed yX8_crossed, Cond.code yX8_crossed cX8_crossed 2 (some .int), Cond.methodLink RL 114 yX7_many, Cond.instanceMethod yX7_many, Cond.selects RX7 yX7_many yX7_many, Cond.code yX7_many cX7_many 2 (some .int), Cond.fieldLink RX7 148 "ChipTimers$Pins" "entries" "I", Cond.methodLink RX7 145 yX7_outputsOn, Cond.instanceMethod yX7_outputsOn, Cond.selects RX7 yX7_outputsOn yX7_outputsOn]
def wsL_law_r27 : List Cond := [Cond.code yX7_outputsOn cX7_outputsOn 3 (some .int), Cond.methodLink RX7 204 yX1_outputsOn, Cond.methodLink RX7 207 yJ6_bitCount_0f7a4, Cond.static yJ6_bitCount_0f7a4, Cond.initialized RJ6, Cond.code yJ6_bitCount_0f7a4 cJ6_bitCount_0f7a4 1 (some .int), Cond.constant RJ6 265 (1431655765), Cond.constant RJ6 266 (858993459), Cond.constant RJ6 267 (252645135), Cond.methodLink RX7 151 yX7_catchersReady, Cond.instanceMethod yX7_catchersReady, Cond.selects RX7 yX7_catchersReady yX7_catchersReady, Cond.code yX7_catchersReady cX7_catchersReady 3 (some .int), Cond.fieldLink RX7 212 "ChipTimers$Catcher" "ready" "I", Cond.methodLink RX7 154 yX7_oversOfAll, Cond.instanceMethod yX7_oversOfAll, Cond.selects RX7 yX7_oversOfAll yX7_oversOfAll, Cond.code yX7_oversOfAll cX7_oversOfAll 3 (some .int), Cond.fieldLink RX7 215 "ChipTimers$Counter" "overs" "I", Cond.methodLink RL 117 yX8_many, Cond.instanceMethod yX8_many, Cond.selects RX8 yX8_many yX8_many, Cond.code yX8_many cX8_many 6 (some .int)]
def wsL_law : List Cond := (wsL_law_r1 ++ (wsL_law_r2 ++ (wsL_law_r3 ++ (wsL_law_r4 ++ (wsL_law_r5 ++ (wsL_law_r6 ++ (wsL_law_r7 ++ (wsL_law_r8 ++ (wsL_law_r9 ++ (wsL_law_r10 ++ (wsL_law_r11 ++ (wsL_law_r12 ++ (wsL_law_r13 ++ (wsL_law_r14 ++ (wsL_law_r15 ++ (wsL_law_r16 ++ (wsL_law_r17 ++ (wsL_law_r18 ++ (wsL_law_r19 ++ (wsL_law_r20 ++ (wsL_law_r21 ++ (wsL_law_r22 ++ (wsL_law_r23 ++ (wsL_law_r24 ++ (wsL_law_r25 ++ (wsL_law_r26 ++ wsL_law_r27)))))))))))))))))))))))))) ++ wsX70 ++ wsX80 ++ wsX50 ++ wsX60 ++ wsX20 ++ wsX30 ++ wsX00 ++ wsX10 ++ wsX40 ++ ([] : List Cond)
theorem inlX0 : ∀ w ∈ wsX00, w ∈ wsL_law := fun _ h => List.mem_append_left _ (List.mem_append_left _ (List.mem_append_left _ (List.mem_append_right _ h)))
theorem inlX1 : ∀ w ∈ wsX10, w ∈ wsL_law := fun _ h => List.mem_append_left _ (List.mem_append_left _ (List.mem_append_right _ h))
theorem inlX2 : ∀ w ∈ wsX20, w ∈ wsL_law := fun _ h => List.mem_append_left _ (List.mem_append_left _ (List.mem_append_left _ (List.mem_append_left _ (List.mem_append_left _ (List.mem_append_right _ h)))))
theorem inlX3 : ∀ w ∈ wsX30, w ∈ wsL_law := fun _ h => List.mem_append_left _ (List.mem_append_left _ (List.mem_append_left _ (List.mem_append_left _ (List.mem_append_right _ h))))
theorem inlX4 : ∀ w ∈ wsX40, w ∈ wsL_law := fun _ h => List.mem_append_left _ (List.mem_append_right _ h)
theorem inlX5 : ∀ w ∈ wsX50, w ∈ wsL_law := fun _ h => List.mem_append_left _ (List.mem_append_left _ (List.mem_append_left _ (List.mem_append_left _ (List.mem_append_left _ (List.mem_append_left _ (List.mem_append_left _ (List.mem_append_right _ h)))))))
theorem inlX6 : ∀ w ∈ wsX60, w ∈ wsL_law := fun _ h => List.mem_append_left _ (List.mem_append_left _ (List.mem_append_left _ (List.mem_append_left _ (List.mem_append_left _ (List.mem_append_left _ (List.mem_append_right _ h))))))
theorem inlX7 : ∀ w ∈ wsX70, w ∈ wsL_law := fun _ h => List.mem_append_left _ (List.mem_append_left _ (List.mem_append_left _ (List.mem_append_left _ (List.mem_append_left _ (List.mem_append_left _ (List.mem_append_left _ (List.mem_append_left _ (List.mem_append_left _ (List.mem_append_right _ h)))))))))
theorem inlX8 : ∀ w ∈ wsX80, w ∈ wsL_law := fun _ h => List.mem_append_left _ (List.mem_append_left _ (List.mem_append_left _ (List.mem_append_left _ (List.mem_append_left _ (List.mem_append_left _ (List.mem_append_left _ (List.mem_append_left _ (List.mem_append_right _ h))))))))
theorem dX0_init_0 : decode cX0_init 0 = .ok (.aload_n 0, 1) := by decide +kernel
theorem dX0_init_1 : decode cX0_init 1 = .ok (.invokespecial 3, 3) := by decide +kernel
theorem dX0_init_4 : decode cX0_init 4 = .ok (.aload_n 0, 1) := by decide +kernel
theorem dX0_init_5 : decode cX0_init 5 = .ok (.iconst 1, 1) := by decide +kernel
theorem dX0_init_6 : decode cX0_init 6 = .ok (.putfield 9, 3) := by decide +kernel
theorem dX0_init_9 : decode cX0_init 9 = .ok (.return_, 1) := by decide +kernel
theorem dX0_setUp_0 : decode cX0_setUp 0 = .ok (.aload_n 0, 1) := by decide +kernel
theorem dX0_setUp_1 : decode cX0_setUp 1 = .ok (.iload_n 1, 1) := by decide +kernel
theorem dX0_setUp_2 : decode cX0_setUp 2 = .ok (.putfield 15, 3) := by decide +kernel
theorem dX0_setUp_5 : decode cX0_setUp 5 = .ok (.aload_n 0, 1) := by decide +kernel
theorem dX0_setUp_6 : decode cX0_setUp 6 = .ok (.iload_n 2, 1) := by decide +kernel
theorem dX0_setUp_7 : decode cX0_setUp 7 = .ok (.putfield 18, 3) := by decide +kernel
theorem dX0_setUp_10 : decode cX0_setUp 10 = .ok (.aload_n 0, 1) := by decide +kernel
theorem dX0_setUp_11 : decode cX0_setUp 11 = .ok (.iload_n 3, 1) := by decide +kernel
theorem dX0_setUp_12 : decode cX0_setUp 12 = .ok (.putfield 9, 3) := by decide +kernel
theorem dX0_setUp_15 : decode cX0_setUp 15 = .ok (.aload_n 0, 1) := by decide +kernel
theorem dX0_setUp_16 : decode cX0_setUp 16 = .ok (.iconst 0, 1) := by decide +kernel
theorem dX0_setUp_17 : decode cX0_setUp 17 = .ok (.putfield 21, 3) := by decide +kernel
theorem dX0_setUp_20 : decode cX0_setUp 20 = .ok (.aload_n 0, 1) := by decide +kernel
theorem dX0_setUp_21 : decode cX0_setUp 21 = .ok (.iconst 0, 1) := by decide +kernel
theorem dX0_setUp_22 : decode cX0_setUp 22 = .ok (.putfield 24, 3) := by decide +kernel
theorem dX0_setUp_25 : decode cX0_setUp 25 = .ok (.aload_n 0, 1) := by decide +kernel
theorem dX0_setUp_26 : decode cX0_setUp 26 = .ok (.iconst 0, 1) := by decide +kernel
theorem dX0_setUp_27 : decode cX0_setUp 27 = .ok (.putfield 27, 3) := by decide +kernel
theorem dX0_setUp_30 : decode cX0_setUp 30 = .ok (.aload_n 0, 1) := by decide +kernel
theorem dX0_setUp_31 : decode cX0_setUp 31 = .ok (.iconst 0, 1) := by decide +kernel
theorem dX0_setUp_32 : decode cX0_setUp 32 = .ok (.putfield 30, 3) := by decide +kernel
theorem dX0_setUp_35 : decode cX0_setUp 35 = .ok (.return_, 1) := by decide +kernel
theorem dX0_notice_0 : decode cX0_notice 0 = .ok (.aload_n 0, 1) := by decide +kernel
theorem dX0_notice_1 : decode cX0_notice 1 = .ok (.getfield 18, 3) := by decide +kernel
theorem dX0_notice_4 : decode cX0_notice 4 = .ok (.iload_n 1, 1) := by decide +kernel
theorem dX0_notice_5 : decode cX0_notice 5 = .ok (.iand, 1) := by decide +kernel
theorem dX0_notice_6 : decode cX0_notice 6 = .ok (.ifCond .ne 4, 3) := by decide +kernel
theorem dX0_notice_9 : decode cX0_notice 9 = .ok (.return_, 1) := by decide +kernel
theorem dX0_notice_10 : decode cX0_notice 10 = .ok (.aload_n 0, 1) := by decide +kernel
theorem dX0_notice_11 : decode cX0_notice 11 = .ok (.dup, 1) := by decide +kernel
theorem dX0_notice_12 : decode cX0_notice 12 = .ok (.getfield 21, 3) := by decide +kernel
theorem dX0_notice_15 : decode cX0_notice 15 = .ok (.iconst 1, 1) := by decide +kernel
theorem dX0_notice_16 : decode cX0_notice 16 = .ok (.iadd, 1) := by decide +kernel
theorem dX0_notice_17 : decode cX0_notice 17 = .ok (.putfield 21, 3) := by decide +kernel
theorem dX0_notice_20 : decode cX0_notice 20 = .ok (.aload_n 0, 1) := by decide +kernel
theorem dX0_notice_21 : decode cX0_notice 21 = .ok (.getfield 21, 3) := by decide +kernel
theorem dX0_notice_24 : decode cX0_notice 24 = .ok (.aload_n 0, 1) := by decide +kernel
theorem dX0_notice_25 : decode cX0_notice 25 = .ok (.getfield 9, 3) := by decide +kernel
theorem dX0_notice_28 : decode cX0_notice 28 = .ok (.irem, 1) := by decide +kernel
theorem dX0_notice_29 : decode cX0_notice 29 = .ok (.ifCond .ne 26, 3) := by decide +kernel
theorem dX0_notice_32 : decode cX0_notice 32 = .ok (.aload_n 0, 1) := by decide +kernel
theorem dX0_notice_33 : decode cX0_notice 33 = .ok (.dup, 1) := by decide +kernel
theorem dX0_notice_34 : decode cX0_notice 34 = .ok (.getfield 30, 3) := by decide +kernel
theorem dX0_notice_37 : decode cX0_notice 37 = .ok (.aload_n 0, 1) := by decide +kernel
theorem dX0_notice_38 : decode cX0_notice 38 = .ok (.getfield 27, 3) := by decide +kernel
theorem dX0_notice_41 : decode cX0_notice 41 = .ok (.iadd, 1) := by decide +kernel
theorem dX0_notice_42 : decode cX0_notice 42 = .ok (.putfield 30, 3) := by decide +kernel
theorem dX0_notice_45 : decode cX0_notice 45 = .ok (.aload_n 0, 1) := by decide +kernel
theorem dX0_notice_46 : decode cX0_notice 46 = .ok (.iload_n 2, 1) := by decide +kernel
theorem dX0_notice_47 : decode cX0_notice 47 = .ok (.putfield 24, 3) := by decide +kernel
theorem dX0_notice_50 : decode cX0_notice 50 = .ok (.aload_n 0, 1) := by decide +kernel
theorem dX0_notice_51 : decode cX0_notice 51 = .ok (.iconst 1, 1) := by decide +kernel
theorem dX0_notice_52 : decode cX0_notice 52 = .ok (.putfield 27, 3) := by decide +kernel
theorem dX0_notice_55 : decode cX0_notice 55 = .ok (.return_, 1) := by decide +kernel
theorem dX0_handOver_0 : decode cX0_handOver 0 = .ok (.aload_n 0, 1) := by decide +kernel
theorem dX0_handOver_1 : decode cX0_handOver 1 = .ok (.getfield 27, 3) := by decide +kernel
theorem dX0_handOver_4 : decode cX0_handOver 4 = .ok (.iconst 1, 1) := by decide +kernel
theorem dX0_handOver_5 : decode cX0_handOver 5 = .ok (.if_icmp .ne 10, 3) := by decide +kernel
theorem dX0_handOver_8 : decode cX0_handOver 8 = .ok (.aload_n 0, 1) := by decide +kernel
theorem dX0_handOver_9 : decode cX0_handOver 9 = .ok (.getfield 24, 3) := by decide +kernel
theorem dX0_handOver_12 : decode cX0_handOver 12 = .ok (.goto 5, 3) := by decide +kernel
theorem dX0_handOver_15 : decode cX0_handOver 15 = .ok (.bipush (-9), 2) := by decide +kernel
theorem dX0_handOver_17 : decode cX0_handOver 17 = .ok (.istore_n 1, 1) := by decide +kernel
theorem dX0_handOver_18 : decode cX0_handOver 18 = .ok (.aload_n 0, 1) := by decide +kernel
theorem dX0_handOver_19 : decode cX0_handOver 19 = .ok (.iconst 0, 1) := by decide +kernel
theorem dX0_handOver_20 : decode cX0_handOver 20 = .ok (.putfield 27, 3) := by decide +kernel
theorem dX0_handOver_23 : decode cX0_handOver 23 = .ok (.iload_n 1, 1) := by decide +kernel
theorem dX0_handOver_24 : decode cX0_handOver 24 = .ok (.ireturn, 1) := by decide +kernel
theorem dX0_tell_0 : decode cX0_tell 0 = .ok (.iload_n 1, 1) := by decide +kernel
theorem dX0_tell_1 : decode cX0_tell 1 = .ok (.tableswitch 78 0 6 #[43, 48, 53, 58, 63, 68, 73], 43) := by decide +kernel
theorem dX0_tell_44 : decode cX0_tell 44 = .ok (.aload_n 0, 1) := by decide +kernel
theorem dX0_tell_45 : decode cX0_tell 45 = .ok (.getfield 15, 3) := by decide +kernel
theorem dX0_tell_48 : decode cX0_tell 48 = .ok (.ireturn, 1) := by decide +kernel
theorem dX0_tell_49 : decode cX0_tell 49 = .ok (.aload_n 0, 1) := by decide +kernel
theorem dX0_tell_50 : decode cX0_tell 50 = .ok (.getfield 18, 3) := by decide +kernel
theorem dX0_tell_53 : decode cX0_tell 53 = .ok (.ireturn, 1) := by decide +kernel
theorem dX0_tell_54 : decode cX0_tell 54 = .ok (.aload_n 0, 1) := by decide +kernel
theorem dX0_tell_55 : decode cX0_tell 55 = .ok (.getfield 9, 3) := by decide +kernel
theorem dX0_tell_58 : decode cX0_tell 58 = .ok (.ireturn, 1) := by decide +kernel
theorem dX0_tell_59 : decode cX0_tell 59 = .ok (.aload_n 0, 1) := by decide +kernel
theorem dX0_tell_60 : decode cX0_tell 60 = .ok (.getfield 21, 3) := by decide +kernel
theorem dX0_tell_63 : decode cX0_tell 63 = .ok (.ireturn, 1) := by decide +kernel
theorem dX0_tell_64 : decode cX0_tell 64 = .ok (.aload_n 0, 1) := by decide +kernel
theorem dX0_tell_65 : decode cX0_tell 65 = .ok (.getfield 24, 3) := by decide +kernel
theorem dX0_tell_68 : decode cX0_tell 68 = .ok (.ireturn, 1) := by decide +kernel
theorem dX0_tell_69 : decode cX0_tell 69 = .ok (.aload_n 0, 1) := by decide +kernel
theorem dX0_tell_70 : decode cX0_tell 70 = .ok (.getfield 27, 3) := by decide +kernel
theorem dX0_tell_73 : decode cX0_tell 73 = .ok (.ireturn, 1) := by decide +kernel
theorem dX0_tell_74 : decode cX0_tell 74 = .ok (.aload_n 0, 1) := by decide +kernel
theorem dX0_tell_75 : decode cX0_tell 75 = .ok (.getfield 30, 3) := by decide +kernel
theorem dX0_tell_78 : decode cX0_tell 78 = .ok (.ireturn, 1) := by decide +kernel
theorem dX0_tell_79 : decode cX0_tell 79 = .ok (.bipush (-2), 2) := by decide +kernel
theorem dX0_tell_81 : decode cX0_tell 81 = .ok (.ireturn, 1) := by decide +kernel
theorem dX1_init_0 : decode cX1_init 0 = .ok (.aload_n 0, 1) := by decide +kernel
theorem dX1_init_1 : decode cX1_init 1 = .ok (.invokespecial 3, 3) := by decide +kernel
theorem dX1_init_4 : decode cX1_init 4 = .ok (.aload_n 0, 1) := by decide +kernel
theorem dX1_init_5 : decode cX1_init 5 = .ok (.iconst 0, 1) := by decide +kernel
theorem dX1_init_6 : decode cX1_init 6 = .ok (.putfield 9, 3) := by decide +kernel
theorem dX1_init_9 : decode cX1_init 9 = .ok (.return_, 1) := by decide +kernel
theorem dX1_setUp_0 : decode cX1_setUp 0 = .ok (.aload_n 0, 1) := by decide +kernel
theorem dX1_setUp_1 : decode cX1_setUp 1 = .ok (.iload_n 1, 1) := by decide +kernel
theorem dX1_setUp_2 : decode cX1_setUp 2 = .ok (.putfield 15, 3) := by decide +kernel
theorem dX1_setUp_5 : decode cX1_setUp 5 = .ok (.aload_n 0, 1) := by decide +kernel
theorem dX1_setUp_6 : decode cX1_setUp 6 = .ok (.iload_n 2, 1) := by decide +kernel
theorem dX1_setUp_7 : decode cX1_setUp 7 = .ok (.putfield 9, 3) := by decide +kernel
theorem dX1_setUp_10 : decode cX1_setUp 10 = .ok (.aload_n 0, 1) := by decide +kernel
theorem dX1_setUp_11 : decode cX1_setUp 11 = .ok (.iload_n 3, 1) := by decide +kernel
theorem dX1_setUp_12 : decode cX1_setUp 12 = .ok (.putfield 18, 3) := by decide +kernel
theorem dX1_setUp_15 : decode cX1_setUp 15 = .ok (.aload_n 0, 1) := by decide +kernel
theorem dX1_setUp_16 : decode cX1_setUp 16 = .ok (.iconst 0, 1) := by decide +kernel
theorem dX1_setUp_17 : decode cX1_setUp 17 = .ok (.putfield 21, 3) := by decide +kernel
theorem dX1_setUp_20 : decode cX1_setUp 20 = .ok (.aload_n 0, 1) := by decide +kernel
theorem dX1_setUp_21 : decode cX1_setUp 21 = .ok (.iconst 0, 1) := by decide +kernel
theorem dX1_setUp_22 : decode cX1_setUp 22 = .ok (.putfield 24, 3) := by decide +kernel
theorem dX1_setUp_25 : decode cX1_setUp 25 = .ok (.return_, 1) := by decide +kernel
theorem dX1_shapeOutputs_0 : decode cX1_shapeOutputs 0 = .ok (.aload_n 0, 1) := by decide +kernel
theorem dX1_shapeOutputs_1 : decode cX1_shapeOutputs 1 = .ok (.iload_n 1, 1) := by decide +kernel
theorem dX1_shapeOutputs_2 : decode cX1_shapeOutputs 2 = .ok (.putfield 27, 3) := by decide +kernel
theorem dX1_shapeOutputs_5 : decode cX1_shapeOutputs 5 = .ok (.aload_n 0, 1) := by decide +kernel
theorem dX1_shapeOutputs_6 : decode cX1_shapeOutputs 6 = .ok (.iload_n 2, 1) := by decide +kernel
theorem dX1_shapeOutputs_7 : decode cX1_shapeOutputs 7 = .ok (.putfield 30, 3) := by decide +kernel
theorem dX1_shapeOutputs_10 : decode cX1_shapeOutputs 10 = .ok (.aload_n 0, 1) := by decide +kernel
theorem dX1_shapeOutputs_11 : decode cX1_shapeOutputs 11 = .ok (.iload_n 3, 1) := by decide +kernel
theorem dX1_shapeOutputs_12 : decode cX1_shapeOutputs 12 = .ok (.putfield 33, 3) := by decide +kernel
theorem dX1_shapeOutputs_15 : decode cX1_shapeOutputs 15 = .ok (.return_, 1) := by decide +kernel
set_option maxRecDepth 20000 in
theorem ggX1_follow_X1_nextLevel : GoodIn wsX1_follow wsX1_nextLevel := goodIn_r _ [11, 12, 13, 14, 15, 1, 24, 25, 26, 27, 28, 29, 30, 31, 32, 33, 34, 16, 17, 18, 19, 20, 21, 22, 23] (by decide +kernel) (by decide +kernel)
set_option maxRecDepth 20000 in
theorem gX1_follow_X1_nextLevel : GoodIn wsX1_follow (wsV RX1 36 RX1 yX1_nextLevel wsX1_nextLevel) := goodIn_app (goodIn_of _ (by decide +kernel)) ggX1_follow_X1_nextLevel
theorem dX1_follow_0 : decode cX1_follow 0 = .ok (.aload_n 0, 1) := by decide +kernel
theorem dX1_follow_1 : decode cX1_follow 1 = .ok (.getfield 21, 3) := by decide +kernel
theorem dX1_follow_4 : decode cX1_follow 4 = .ok (.istore_n 2, 1) := by decide +kernel
theorem dX1_follow_5 : decode cX1_follow 5 = .ok (.aload_n 0, 1) := by decide +kernel
theorem dX1_follow_6 : decode cX1_follow 6 = .ok (.aload_n 0, 1) := by decide +kernel
theorem dX1_follow_7 : decode cX1_follow 7 = .ok (.aload_n 1, 1) := by decide +kernel
theorem dX1_follow_8 : decode cX1_follow 8 = .ok (.invokevirtual 36, 3) := by decide +kernel
theorem dX1_follow_11 : decode cX1_follow 11 = .ok (.putfield 21, 3) := by decide +kernel
theorem dX1_follow_14 : decode cX1_follow 14 = .ok (.aload_n 0, 1) := by decide +kernel
theorem dX1_follow_15 : decode cX1_follow 15 = .ok (.aload_n 0, 1) := by decide +kernel
theorem dX1_follow_16 : decode cX1_follow 16 = .ok (.getfield 21, 3) := by decide +kernel
theorem dX1_follow_19 : decode cX1_follow 19 = .ok (.iload_n 2, 1) := by decide +kernel
theorem dX1_follow_20 : decode cX1_follow 20 = .ok (.if_icmp .ne 17, 3) := by decide +kernel
theorem dX1_follow_23 : decode cX1_follow 23 = .ok (.aload_n 0, 1) := by decide +kernel
theorem dX1_follow_24 : decode cX1_follow 24 = .ok (.getfield 24, 3) := by decide +kernel
theorem dX1_follow_27 : decode cX1_follow 27 = .ok (.iconst 1, 1) := by decide +kernel
theorem dX1_follow_28 : decode cX1_follow 28 = .ok (.iadd, 1) := by decide +kernel
theorem dX1_follow_29 : decode cX1_follow 29 = .ok (.bipush 99, 2) := by decide +kernel
theorem dX1_follow_31 : decode cX1_follow 31 = .ok (.invokestatic 40, 3) := by decide +kernel
theorem dX1_follow_34 : decode cX1_follow 34 = .ok (.goto 4, 3) := by decide +kernel
theorem dX1_follow_37 : decode cX1_follow 37 = .ok (.iconst 1, 1) := by decide +kernel
theorem dX1_follow_38 : decode cX1_follow 38 = .ok (.putfield 24, 3) := by decide +kernel
theorem dX1_follow_41 : decode cX1_follow 41 = .ok (.return_, 1) := by decide +kernel
theorem dX1_nextLevel_0 : decode cX1_nextLevel 0 = .ok (.aload_n 1, 1) := by decide +kernel
theorem dX1_nextLevel_1 : decode cX1_nextLevel 1 = .ok (.getfield 46, 3) := by decide +kernel
theorem dX1_nextLevel_4 : decode cX1_nextLevel 4 = .ok (.ifCond .eq 18, 3) := by decide +kernel
theorem dX1_nextLevel_7 : decode cX1_nextLevel 7 = .ok (.aload_n 1, 1) := by decide +kernel
theorem dX1_nextLevel_8 : decode cX1_nextLevel 8 = .ok (.getfield 52, 3) := by decide +kernel
theorem dX1_nextLevel_11 : decode cX1_nextLevel 11 = .ok (.aload_n 0, 1) := by decide +kernel
theorem dX1_nextLevel_12 : decode cX1_nextLevel 12 = .ok (.getfield 18, 3) := by decide +kernel
theorem dX1_nextLevel_15 : decode cX1_nextLevel 15 = .ok (.if_icmp .ne 7, 3) := by decide +kernel
theorem dX1_nextLevel_18 : decode cX1_nextLevel 18 = .ok (.iconst 1, 1) := by decide +kernel
theorem dX1_nextLevel_19 : decode cX1_nextLevel 19 = .ok (.goto 4, 3) := by decide +kernel
theorem dX1_nextLevel_22 : decode cX1_nextLevel 22 = .ok (.iconst 0, 1) := by decide +kernel
theorem dX1_nextLevel_23 : decode cX1_nextLevel 23 = .ok (.istore_n 2, 1) := by decide +kernel
theorem dX1_nextLevel_24 : decode cX1_nextLevel 24 = .ok (.aload_n 0, 1) := by decide +kernel
theorem dX1_nextLevel_25 : decode cX1_nextLevel 25 = .ok (.getfield 9, 3) := by decide +kernel
theorem dX1_nextLevel_28 : decode cX1_nextLevel 28 = .ok (.tableswitch 97 1 4 #[32, 49, 66, 84], 32) := by decide +kernel
theorem dX1_nextLevel_60 : decode cX1_nextLevel 60 = .ok (.aload_n 1, 1) := by decide +kernel
theorem dX1_nextLevel_61 : decode cX1_nextLevel 61 = .ok (.getfield 52, 3) := by decide +kernel
theorem dX1_nextLevel_64 : decode cX1_nextLevel 64 = .ok (.aload_n 0, 1) := by decide +kernel
theorem dX1_nextLevel_65 : decode cX1_nextLevel 65 = .ok (.getfield 18, 3) := by decide +kernel
theorem dX1_nextLevel_68 : decode cX1_nextLevel 68 = .ok (.if_icmp .ge 7, 3) := by decide +kernel
theorem dX1_nextLevel_71 : decode cX1_nextLevel 71 = .ok (.iconst 1, 1) := by decide +kernel
theorem dX1_nextLevel_72 : decode cX1_nextLevel 72 = .ok (.goto 4, 3) := by decide +kernel
theorem dX1_nextLevel_75 : decode cX1_nextLevel 75 = .ok (.iconst 0, 1) := by decide +kernel
theorem dX1_nextLevel_76 : decode cX1_nextLevel 76 = .ok (.ireturn, 1) := by decide +kernel
theorem dX1_nextLevel_77 : decode cX1_nextLevel 77 = .ok (.aload_n 1, 1) := by decide +kernel
theorem dX1_nextLevel_78 : decode cX1_nextLevel 78 = .ok (.getfield 52, 3) := by decide +kernel
theorem dX1_nextLevel_81 : decode cX1_nextLevel 81 = .ok (.aload_n 0, 1) := by decide +kernel
theorem dX1_nextLevel_82 : decode cX1_nextLevel 82 = .ok (.getfield 18, 3) := by decide +kernel
theorem dX1_nextLevel_85 : decode cX1_nextLevel 85 = .ok (.if_icmp .lt 7, 3) := by decide +kernel
theorem dX1_nextLevel_88 : decode cX1_nextLevel 88 = .ok (.iconst 1, 1) := by decide +kernel
theorem dX1_nextLevel_89 : decode cX1_nextLevel 89 = .ok (.goto 4, 3) := by decide +kernel
theorem dX1_nextLevel_92 : decode cX1_nextLevel 92 = .ok (.iconst 0, 1) := by decide +kernel
theorem dX1_nextLevel_93 : decode cX1_nextLevel 93 = .ok (.ireturn, 1) := by decide +kernel
theorem dX1_nextLevel_94 : decode cX1_nextLevel 94 = .ok (.iload_n 2, 1) := by decide +kernel
theorem dX1_nextLevel_95 : decode cX1_nextLevel 95 = .ok (.ifCond .eq 12, 3) := by decide +kernel
theorem dX1_nextLevel_98 : decode cX1_nextLevel 98 = .ok (.iconst 1, 1) := by decide +kernel
theorem dX1_nextLevel_99 : decode cX1_nextLevel 99 = .ok (.aload_n 0, 1) := by decide +kernel
theorem dX1_nextLevel_100 : decode cX1_nextLevel 100 = .ok (.getfield 21, 3) := by decide +kernel
theorem dX1_nextLevel_103 : decode cX1_nextLevel 103 = .ok (.isub, 1) := by decide +kernel
theorem dX1_nextLevel_104 : decode cX1_nextLevel 104 = .ok (.goto 7, 3) := by decide +kernel
theorem dX1_nextLevel_107 : decode cX1_nextLevel 107 = .ok (.aload_n 0, 1) := by decide +kernel
theorem dX1_nextLevel_108 : decode cX1_nextLevel 108 = .ok (.getfield 21, 3) := by decide +kernel
theorem dX1_nextLevel_111 : decode cX1_nextLevel 111 = .ok (.ireturn, 1) := by decide +kernel
theorem dX1_nextLevel_112 : decode cX1_nextLevel 112 = .ok (.iload_n 2, 1) := by decide +kernel
theorem dX1_nextLevel_113 : decode cX1_nextLevel 113 = .ok (.ifCond .eq 7, 3) := by decide +kernel
theorem dX1_nextLevel_116 : decode cX1_nextLevel 116 = .ok (.iconst 1, 1) := by decide +kernel
theorem dX1_nextLevel_117 : decode cX1_nextLevel 117 = .ok (.goto 7, 3) := by decide +kernel
theorem dX1_nextLevel_120 : decode cX1_nextLevel 120 = .ok (.aload_n 0, 1) := by decide +kernel
theorem dX1_nextLevel_121 : decode cX1_nextLevel 121 = .ok (.getfield 21, 3) := by decide +kernel
theorem dX1_nextLevel_124 : decode cX1_nextLevel 124 = .ok (.ireturn, 1) := by decide +kernel
theorem dX1_nextLevel_125 : decode cX1_nextLevel 125 = .ok (.iconst 0, 1) := by decide +kernel
theorem dX1_nextLevel_126 : decode cX1_nextLevel 126 = .ok (.ireturn, 1) := by decide +kernel
theorem dX1_outputsOn_0 : decode cX1_outputsOn 0 = .ok (.aload_n 0, 1) := by decide +kernel
theorem dX1_outputsOn_1 : decode cX1_outputsOn 1 = .ok (.getfield 9, 3) := by decide +kernel
theorem dX1_outputsOn_4 : decode cX1_outputsOn 4 = .ok (.ifCond .eq 18, 3) := by decide +kernel
theorem dX1_outputsOn_7 : decode cX1_outputsOn 7 = .ok (.iload_n 1, 1) := by decide +kernel
theorem dX1_outputsOn_8 : decode cX1_outputsOn 8 = .ok (.ifCond .ne 14, 3) := by decide +kernel
theorem dX1_outputsOn_11 : decode cX1_outputsOn 11 = .ok (.aload_n 0, 1) := by decide +kernel
theorem dX1_outputsOn_12 : decode cX1_outputsOn 12 = .ok (.getfield 24, 3) := by decide +kernel
theorem dX1_outputsOn_15 : decode cX1_outputsOn 15 = .ok (.aload_n 0, 1) := by decide +kernel
theorem dX1_outputsOn_16 : decode cX1_outputsOn 16 = .ok (.getfield 27, 3) := by decide +kernel
theorem dX1_outputsOn_19 : decode cX1_outputsOn 19 = .ok (.if_icmp .gt 5, 3) := by decide +kernel
theorem dX1_outputsOn_22 : decode cX1_outputsOn 22 = .ok (.iconst 0, 1) := by decide +kernel
theorem dX1_outputsOn_23 : decode cX1_outputsOn 23 = .ok (.ireturn, 1) := by decide +kernel
theorem dX1_outputsOn_24 : decode cX1_outputsOn 24 = .ok (.aload_n 0, 1) := by decide +kernel
theorem dX1_outputsOn_25 : decode cX1_outputsOn 25 = .ok (.getfield 21, 3) := by decide +kernel
theorem dX1_outputsOn_28 : decode cX1_outputsOn 28 = .ok (.iconst 1, 1) := by decide +kernel
theorem dX1_outputsOn_29 : decode cX1_outputsOn 29 = .ok (.if_icmp .ne 7, 3) := by decide +kernel
theorem dX1_outputsOn_32 : decode cX1_outputsOn 32 = .ok (.iconst 1, 1) := by decide +kernel
theorem dX1_outputsOn_33 : decode cX1_outputsOn 33 = .ok (.goto 4, 3) := by decide +kernel
theorem dX1_outputsOn_36 : decode cX1_outputsOn 36 = .ok (.iconst 2, 1) := by decide +kernel
theorem dX1_outputsOn_37 : decode cX1_outputsOn 37 = .ok (.ireturn, 1) := by decide +kernel
set_option maxRecDepth 20000 in
theorem ggX1_pinLevel_X1_outputsOn : GoodIn wsX1_pinLevel wsX1_outputsOn := goodIn_r _ [7, 8, 9, 10, 11, 12, 13, 14, 15, 16, 17, 18, 19] (by decide +kernel) (by decide +kernel)
set_option maxRecDepth 20000 in
theorem gX1_pinLevel_X1_outputsOn : GoodIn wsX1_pinLevel (wsV RX1 55 RX1 yX1_outputsOn wsX1_outputsOn) := goodIn_app (goodIn_of _ (by decide +kernel)) ggX1_pinLevel_X1_outputsOn
theorem dX1_pinLevel_0 : decode cX1_pinLevel 0 = .ok (.iload_n 2, 1) := by decide +kernel
theorem dX1_pinLevel_1 : decode cX1_pinLevel 1 = .ok (.ifCond .eq 10, 3) := by decide +kernel
theorem dX1_pinLevel_4 : decode cX1_pinLevel 4 = .ok (.aload_n 0, 1) := by decide +kernel
theorem dX1_pinLevel_5 : decode cX1_pinLevel 5 = .ok (.getfield 33, 3) := by decide +kernel
theorem dX1_pinLevel_8 : decode cX1_pinLevel 8 = .ok (.goto 13, 3) := by decide +kernel
theorem dX1_pinLevel_11 : decode cX1_pinLevel 11 = .ok (.aload_n 0, 1) := by decide +kernel
theorem dX1_pinLevel_12 : decode cX1_pinLevel 12 = .ok (.iconst 0, 1) := by decide +kernel
theorem dX1_pinLevel_13 : decode cX1_pinLevel 13 = .ok (.invokevirtual 55, 3) := by decide +kernel
theorem dX1_pinLevel_16 : decode cX1_pinLevel 16 = .ok (.aload_n 0, 1) := by decide +kernel
theorem dX1_pinLevel_17 : decode cX1_pinLevel 17 = .ok (.getfield 30, 3) := by decide +kernel
theorem dX1_pinLevel_20 : decode cX1_pinLevel 20 = .ok (.ixor, 1) := by decide +kernel
theorem dX1_pinLevel_21 : decode cX1_pinLevel 21 = .ok (.istore_n 3, 1) := by decide +kernel
theorem dX1_pinLevel_22 : decode cX1_pinLevel 22 = .ok (.iload_n 3, 1) := by decide +kernel
theorem dX1_pinLevel_23 : decode cX1_pinLevel 23 = .ok (.iload_n 1, 1) := by decide +kernel
theorem dX1_pinLevel_24 : decode cX1_pinLevel 24 = .ok (.ishr, 1) := by decide +kernel
theorem dX1_pinLevel_25 : decode cX1_pinLevel 25 = .ok (.iconst 1, 1) := by decide +kernel
theorem dX1_pinLevel_26 : decode cX1_pinLevel 26 = .ok (.iand, 1) := by decide +kernel
theorem dX1_pinLevel_27 : decode cX1_pinLevel 27 = .ok (.ireturn, 1) := by decide +kernel
set_option maxRecDepth 20000 in
theorem ggX1_tell_X1_outputsOn : GoodIn wsX1_tell wsX1_outputsOn := goodIn_r _ [13, 2, 5, 6, 4, 14, 15, 16, 17, 18, 19, 20, 21] (by decide +kernel) (by decide +kernel)
set_option maxRecDepth 20000 in
theorem gX1_tell_X1_outputsOn : GoodIn wsX1_tell (wsV RX1 55 RX1 yX1_outputsOn wsX1_outputsOn) := goodIn_app (goodIn_of _ (by decide +kernel)) ggX1_tell_X1_outputsOn
theorem dX1_tell_0 : decode cX1_tell 0 = .ok (.iload_n 1, 1) := by decide +kernel
theorem dX1_tell_1 : decode cX1_tell 1 = .ok (.tableswitch 97 0 8 #[51, 56, 61, 66, 71, 76, 81, 86, 91], 51) := by decide +kernel
theorem dX1_tell_52 : decode cX1_tell 52 = .ok (.aload_n 0, 1) := by decide +kernel
theorem dX1_tell_53 : decode cX1_tell 53 = .ok (.getfield 15, 3) := by decide +kernel
theorem dX1_tell_56 : decode cX1_tell 56 = .ok (.ireturn, 1) := by decide +kernel
theorem dX1_tell_57 : decode cX1_tell 57 = .ok (.aload_n 0, 1) := by decide +kernel
theorem dX1_tell_58 : decode cX1_tell 58 = .ok (.getfield 9, 3) := by decide +kernel
theorem dX1_tell_61 : decode cX1_tell 61 = .ok (.ireturn, 1) := by decide +kernel
theorem dX1_tell_62 : decode cX1_tell 62 = .ok (.aload_n 0, 1) := by decide +kernel
theorem dX1_tell_63 : decode cX1_tell 63 = .ok (.getfield 18, 3) := by decide +kernel
theorem dX1_tell_66 : decode cX1_tell 66 = .ok (.ireturn, 1) := by decide +kernel
theorem dX1_tell_67 : decode cX1_tell 67 = .ok (.aload_n 0, 1) := by decide +kernel
theorem dX1_tell_68 : decode cX1_tell 68 = .ok (.getfield 21, 3) := by decide +kernel
theorem dX1_tell_71 : decode cX1_tell 71 = .ok (.ireturn, 1) := by decide +kernel
theorem dX1_tell_72 : decode cX1_tell 72 = .ok (.aload_n 0, 1) := by decide +kernel
theorem dX1_tell_73 : decode cX1_tell 73 = .ok (.getfield 24, 3) := by decide +kernel
theorem dX1_tell_76 : decode cX1_tell 76 = .ok (.ireturn, 1) := by decide +kernel
theorem dX1_tell_77 : decode cX1_tell 77 = .ok (.aload_n 0, 1) := by decide +kernel
theorem dX1_tell_78 : decode cX1_tell 78 = .ok (.getfield 27, 3) := by decide +kernel
theorem dX1_tell_81 : decode cX1_tell 81 = .ok (.ireturn, 1) := by decide +kernel
theorem dX1_tell_82 : decode cX1_tell 82 = .ok (.aload_n 0, 1) := by decide +kernel
theorem dX1_tell_83 : decode cX1_tell 83 = .ok (.getfield 30, 3) := by decide +kernel
theorem dX1_tell_86 : decode cX1_tell 86 = .ok (.ireturn, 1) := by decide +kernel
theorem dX1_tell_87 : decode cX1_tell 87 = .ok (.aload_n 0, 1) := by decide +kernel
theorem dX1_tell_88 : decode cX1_tell 88 = .ok (.getfield 33, 3) := by decide +kernel
theorem dX1_tell_91 : decode cX1_tell 91 = .ok (.ireturn, 1) := by decide +kernel
theorem dX1_tell_92 : decode cX1_tell 92 = .ok (.aload_n 0, 1) := by decide +kernel
theorem dX1_tell_93 : decode cX1_tell 93 = .ok (.iload_n 2, 1) := by decide +kernel
theorem dX1_tell_94 : decode cX1_tell 94 = .ok (.invokevirtual 55, 3) := by decide +kernel
theorem dX1_tell_97 : decode cX1_tell 97 = .ok (.ireturn, 1) := by decide +kernel
theorem dX1_tell_98 : decode cX1_tell 98 = .ok (.bipush (-2), 2) := by decide +kernel
theorem dX1_tell_100 : decode cX1_tell 100 = .ok (.ireturn, 1) := by decide +kernel
theorem dX2_init_0 : decode cX2_init 0 = .ok (.aload_n 0, 1) := by decide +kernel
theorem dX2_init_1 : decode cX2_init 1 = .ok (.invokespecial 3, 3) := by decide +kernel
theorem dX2_init_4 : decode cX2_init 4 = .ok (.aload_n 0, 1) := by decide +kernel
theorem dX2_init_5 : decode cX2_init 5 = .ok (.iconst 0, 1) := by decide +kernel
theorem dX2_init_6 : decode cX2_init 6 = .ok (.putfield 9, 3) := by decide +kernel
theorem dX2_init_9 : decode cX2_init 9 = .ok (.aload_n 0, 1) := by decide +kernel
theorem dX2_init_10 : decode cX2_init 10 = .ok (.bipush 99, 2) := by decide +kernel
theorem dX2_init_12 : decode cX2_init 12 = .ok (.putfield 15, 3) := by decide +kernel
theorem dX2_init_15 : decode cX2_init 15 = .ok (.aload_n 0, 1) := by decide +kernel
theorem dX2_init_16 : decode cX2_init 16 = .ok (.iconst 1, 1) := by decide +kernel
theorem dX2_init_17 : decode cX2_init 17 = .ok (.putfield 18, 3) := by decide +kernel
theorem dX2_init_20 : decode cX2_init 20 = .ok (.aload_n 0, 1) := by decide +kernel
theorem dX2_init_21 : decode cX2_init 21 = .ok (.iconst 0, 1) := by decide +kernel
theorem dX2_init_22 : decode cX2_init 22 = .ok (.putfield 21, 3) := by decide +kernel
theorem dX2_init_25 : decode cX2_init 25 = .ok (.aload_n 0, 1) := by decide +kernel
theorem dX2_init_26 : decode cX2_init 26 = .ok (.iconst 1, 1) := by decide +kernel
theorem dX2_init_27 : decode cX2_init 27 = .ok (.putfield 24, 3) := by decide +kernel
theorem dX2_init_30 : decode cX2_init 30 = .ok (.aload_n 0, 1) := by decide +kernel
theorem dX2_init_31 : decode cX2_init 31 = .ok (.bipush (-9), 2) := by decide +kernel
theorem dX2_init_33 : decode cX2_init 33 = .ok (.putfield 27, 3) := by decide +kernel
theorem dX2_init_36 : decode cX2_init 36 = .ok (.return_, 1) := by decide +kernel
theorem dX2_setUp_0 : decode cX2_setUp 0 = .ok (.aload_n 0, 1) := by decide +kernel
theorem dX2_setUp_1 : decode cX2_setUp 1 = .ok (.iload_n 1, 1) := by decide +kernel
theorem dX2_setUp_2 : decode cX2_setUp 2 = .ok (.putfield 9, 3) := by decide +kernel
theorem dX2_setUp_5 : decode cX2_setUp 5 = .ok (.aload_n 0, 1) := by decide +kernel
theorem dX2_setUp_6 : decode cX2_setUp 6 = .ok (.iload_n 2, 1) := by decide +kernel
theorem dX2_setUp_7 : decode cX2_setUp 7 = .ok (.putfield 15, 3) := by decide +kernel
theorem dX2_setUp_10 : decode cX2_setUp 10 = .ok (.aload_n 0, 1) := by decide +kernel
theorem dX2_setUp_11 : decode cX2_setUp 11 = .ok (.iload_n 3, 1) := by decide +kernel
theorem dX2_setUp_12 : decode cX2_setUp 12 = .ok (.putfield 18, 3) := by decide +kernel
theorem dX2_setUp_15 : decode cX2_setUp 15 = .ok (.aload_n 0, 1) := by decide +kernel
theorem dX2_setUp_16 : decode cX2_setUp 16 = .ok (.iconst 0, 1) := by decide +kernel
theorem dX2_setUp_17 : decode cX2_setUp 17 = .ok (.putfield 30, 3) := by decide +kernel
theorem dX2_setUp_20 : decode cX2_setUp 20 = .ok (.aload_n 0, 1) := by decide +kernel
theorem dX2_setUp_21 : decode cX2_setUp 21 = .ok (.iconst 0, 1) := by decide +kernel
theorem dX2_setUp_22 : decode cX2_setUp 22 = .ok (.putfield 33, 3) := by decide +kernel
theorem dX2_setUp_25 : decode cX2_setUp 25 = .ok (.aload_n 0, 1) := by decide +kernel
theorem dX2_setUp_26 : decode cX2_setUp 26 = .ok (.iconst 1, 1) := by decide +kernel
theorem dX2_setUp_27 : decode cX2_setUp 27 = .ok (.putfield 24, 3) := by decide +kernel
theorem dX2_setUp_30 : decode cX2_setUp 30 = .ok (.aload_n 0, 1) := by decide +kernel
theorem dX2_setUp_31 : decode cX2_setUp 31 = .ok (.iconst 0, 1) := by decide +kernel
theorem dX2_setUp_32 : decode cX2_setUp 32 = .ok (.putfield 36, 3) := by decide +kernel
theorem dX2_setUp_35 : decode cX2_setUp 35 = .ok (.aload_n 0, 1) := by decide +kernel
theorem dX2_setUp_36 : decode cX2_setUp 36 = .ok (.bipush (-9), 2) := by decide +kernel
theorem dX2_setUp_38 : decode cX2_setUp 38 = .ok (.putfield 27, 3) := by decide +kernel
theorem dX2_setUp_41 : decode cX2_setUp 41 = .ok (.return_, 1) := by decide +kernel
set_option maxRecDepth 20000 in
theorem ggX2_pass_X2_step : GoodIn wsX2_pass wsX2_step := goodIn_r _ [9, 2, 10, 11, 12, 13, 8, 14, 15, 16, 17, 18, 19, 20, 1, 21, 22, 23, 24, 25, 26, 27, 28, 29, 30, 31, 32, 33, 34, 35, 36, 37, 38, 39, 40, 41, 42, 43, 44, 45, 46] (by decide +kernel) (by decide +kernel)
set_option maxRecDepth 20000 in
theorem gX2_pass_X2_step : GoodIn wsX2_pass (wsV RX2 46 RX2 yX2_step wsX2_step) := goodIn_app (goodIn_of _ (by decide +kernel)) ggX2_pass_X2_step
theorem dX2_pass_0 : decode cX2_pass 0 = .ok (.aload_n 0, 1) := by decide +kernel
theorem dX2_pass_1 : decode cX2_pass 1 = .ok (.iconst 0, 1) := by decide +kernel
theorem dX2_pass_2 : decode cX2_pass 2 = .ok (.putfield 39, 3) := by decide +kernel
theorem dX2_pass_5 : decode cX2_pass 5 = .ok (.aload_n 0, 1) := by decide +kernel
theorem dX2_pass_6 : decode cX2_pass 6 = .ok (.iconst 0, 1) := by decide +kernel
theorem dX2_pass_7 : decode cX2_pass 7 = .ok (.putfield 43, 3) := by decide +kernel
theorem dX2_pass_10 : decode cX2_pass 10 = .ok (.iload_n 1, 1) := by decide +kernel
theorem dX2_pass_11 : decode cX2_pass 11 = .ok (.ifCond .eq 33, 3) := by decide +kernel
theorem dX2_pass_14 : decode cX2_pass 14 = .ok (.aload_n 0, 1) := by decide +kernel
theorem dX2_pass_15 : decode cX2_pass 15 = .ok (.dup, 1) := by decide +kernel
theorem dX2_pass_16 : decode cX2_pass 16 = .ok (.getfield 33, 3) := by decide +kernel
theorem dX2_pass_19 : decode cX2_pass 19 = .ok (.iconst 1, 1) := by decide +kernel
theorem dX2_pass_20 : decode cX2_pass 20 = .ok (.iadd, 1) := by decide +kernel
theorem dX2_pass_21 : decode cX2_pass 21 = .ok (.putfield 33, 3) := by decide +kernel
theorem dX2_pass_24 : decode cX2_pass 24 = .ok (.aload_n 0, 1) := by decide +kernel
theorem dX2_pass_25 : decode cX2_pass 25 = .ok (.getfield 33, 3) := by decide +kernel
theorem dX2_pass_28 : decode cX2_pass 28 = .ok (.aload_n 0, 1) := by decide +kernel
theorem dX2_pass_29 : decode cX2_pass 29 = .ok (.getfield 18, 3) := by decide +kernel
theorem dX2_pass_32 : decode cX2_pass 32 = .ok (.if_icmp .ne 12, 3) := by decide +kernel
theorem dX2_pass_35 : decode cX2_pass 35 = .ok (.aload_n 0, 1) := by decide +kernel
theorem dX2_pass_36 : decode cX2_pass 36 = .ok (.iconst 0, 1) := by decide +kernel
theorem dX2_pass_37 : decode cX2_pass 37 = .ok (.putfield 33, 3) := by decide +kernel
theorem dX2_pass_40 : decode cX2_pass 40 = .ok (.aload_n 0, 1) := by decide +kernel
theorem dX2_pass_41 : decode cX2_pass 41 = .ok (.invokevirtual 46, 3) := by decide +kernel
theorem dX2_pass_44 : decode cX2_pass 44 = .ok (.return_, 1) := by decide +kernel
set_option maxRecDepth 20000 in
theorem ggX2_step_X2_stepUp : GoodIn wsX2_step wsX2_stepUp := goodIn_r _ [7, 8, 9, 10, 11, 12, 6, 13, 14, 15, 16, 17, 18, 19, 20, 30, 31, 32, 33, 34, 35, 36, 37, 38, 39, 40] (by decide +kernel) (by decide +kernel)
set_option maxRecDepth 20000 in
theorem gX2_step_X2_stepUp : GoodIn wsX2_step (wsV RX2 49 RX2 yX2_stepUp wsX2_stepUp) := goodIn_app (goodIn_of _ (by decide +kernel)) ggX2_step_X2_stepUp
set_option maxRecDepth 20000 in
theorem ggX2_step_X2_stepDown : GoodIn wsX2_step wsX2_stepDown := goodIn_r _ [24, 8, 9, 10, 11, 12, 6, 13, 14, 15, 16, 17, 18, 19, 20, 30, 31, 32, 33, 34, 35, 36, 37, 38, 39, 40] (by decide +kernel) (by decide +kernel)
set_option maxRecDepth 20000 in
theorem gX2_step_X2_stepDown : GoodIn wsX2_step (wsV RX2 52 RX2 yX2_stepDown wsX2_stepDown) := goodIn_app (goodIn_of _ (by decide +kernel)) ggX2_step_X2_stepDown
set_option maxRecDepth 20000 in
theorem ggX2_step_X2_stepBothWays : GoodIn wsX2_step wsX2_stepBothWays := goodIn_r _ [28, 29, 8, 9, 10, 11, 12, 6, 13, 14, 15, 16, 17, 18, 19, 20, 30, 31, 32, 33, 34, 35, 36, 37, 38, 39, 40] (by decide +kernel) (by decide +kernel)
set_option maxRecDepth 20000 in
theorem gX2_step_X2_stepBothWays : GoodIn wsX2_step (wsV RX2 55 RX2 yX2_stepBothWays wsX2_stepBothWays) := goodIn_app (goodIn_of _ (by decide +kernel)) ggX2_step_X2_stepBothWays
theorem dX2_step_0 : decode cX2_step 0 = .ok (.aload_n 0, 1) := by decide +kernel
theorem dX2_step_1 : decode cX2_step 1 = .ok (.iconst 1, 1) := by decide +kernel
theorem dX2_step_2 : decode cX2_step 2 = .ok (.putfield 43, 3) := by decide +kernel
theorem dX2_step_5 : decode cX2_step 5 = .ok (.aload_n 0, 1) := by decide +kernel
theorem dX2_step_6 : decode cX2_step 6 = .ok (.getfield 9, 3) := by decide +kernel
theorem dX2_step_9 : decode cX2_step 9 = .ok (.lookupswitch 41 #[(0, 27), (1, 34)], 27) := by decide +kernel
theorem dX2_step_36 : decode cX2_step 36 = .ok (.aload_n 0, 1) := by decide +kernel
theorem dX2_step_37 : decode cX2_step 37 = .ok (.invokevirtual 49, 3) := by decide +kernel
theorem dX2_step_40 : decode cX2_step 40 = .ok (.goto 14, 3) := by decide +kernel
theorem dX2_step_43 : decode cX2_step 43 = .ok (.aload_n 0, 1) := by decide +kernel
theorem dX2_step_44 : decode cX2_step 44 = .ok (.invokevirtual 52, 3) := by decide +kernel
theorem dX2_step_47 : decode cX2_step 47 = .ok (.goto 7, 3) := by decide +kernel
theorem dX2_step_50 : decode cX2_step 50 = .ok (.aload_n 0, 1) := by decide +kernel
theorem dX2_step_51 : decode cX2_step 51 = .ok (.invokevirtual 55, 3) := by decide +kernel
theorem dX2_step_54 : decode cX2_step 54 = .ok (.return_, 1) := by decide +kernel
set_option maxRecDepth 20000 in
theorem ggX2_stepUp_X2_goOver : GoodIn wsX2_stepUp wsX2_goOver := goodIn_r _ [7, 8, 9, 15, 16, 17, 18, 19, 20, 21, 22, 23, 24, 25] (by decide +kernel) (by decide +kernel)
set_option maxRecDepth 20000 in
theorem gX2_stepUp_X2_goOver : GoodIn wsX2_stepUp (wsV RX2 58 RX2 yX2_goOver wsX2_goOver) := goodIn_app (goodIn_of _ (by decide +kernel)) ggX2_stepUp_X2_goOver
set_option maxRecDepth 20000 in
theorem ggX2_stepUp_X2_takeWaitingTop : GoodIn wsX2_stepUp wsX2_takeWaitingTop := goodIn_r _ [13, 14, 2, 15, 16, 17, 18, 19, 20, 21, 22, 23, 24, 25] (by decide +kernel) (by decide +kernel)
set_option maxRecDepth 20000 in
theorem gX2_stepUp_X2_takeWaitingTop : GoodIn wsX2_stepUp (wsV RX2 61 RX2 yX2_takeWaitingTop wsX2_takeWaitingTop) := goodIn_app (goodIn_of _ (by decide +kernel)) ggX2_stepUp_X2_takeWaitingTop
theorem dX2_stepUp_0 : decode cX2_stepUp 0 = .ok (.aload_n 0, 1) := by decide +kernel
theorem dX2_stepUp_1 : decode cX2_stepUp 1 = .ok (.getfield 30, 3) := by decide +kernel
theorem dX2_stepUp_4 : decode cX2_stepUp 4 = .ok (.aload_n 0, 1) := by decide +kernel
theorem dX2_stepUp_5 : decode cX2_stepUp 5 = .ok (.getfield 15, 3) := by decide +kernel
theorem dX2_stepUp_8 : decode cX2_stepUp 8 = .ok (.if_icmp .ne 19, 3) := by decide +kernel
theorem dX2_stepUp_11 : decode cX2_stepUp 11 = .ok (.aload_n 0, 1) := by decide +kernel
theorem dX2_stepUp_12 : decode cX2_stepUp 12 = .ok (.invokevirtual 58, 3) := by decide +kernel
theorem dX2_stepUp_15 : decode cX2_stepUp 15 = .ok (.aload_n 0, 1) := by decide +kernel
theorem dX2_stepUp_16 : decode cX2_stepUp 16 = .ok (.invokevirtual 61, 3) := by decide +kernel
theorem dX2_stepUp_19 : decode cX2_stepUp 19 = .ok (.aload_n 0, 1) := by decide +kernel
theorem dX2_stepUp_20 : decode cX2_stepUp 20 = .ok (.iconst 0, 1) := by decide +kernel
theorem dX2_stepUp_21 : decode cX2_stepUp 21 = .ok (.putfield 30, 3) := by decide +kernel
theorem dX2_stepUp_24 : decode cX2_stepUp 24 = .ok (.goto 13, 3) := by decide +kernel
theorem dX2_stepUp_27 : decode cX2_stepUp 27 = .ok (.aload_n 0, 1) := by decide +kernel
theorem dX2_stepUp_28 : decode cX2_stepUp 28 = .ok (.dup, 1) := by decide +kernel
theorem dX2_stepUp_29 : decode cX2_stepUp 29 = .ok (.getfield 30, 3) := by decide +kernel
theorem dX2_stepUp_32 : decode cX2_stepUp 32 = .ok (.iconst 1, 1) := by decide +kernel
theorem dX2_stepUp_33 : decode cX2_stepUp 33 = .ok (.iadd, 1) := by decide +kernel
theorem dX2_stepUp_34 : decode cX2_stepUp 34 = .ok (.putfield 30, 3) := by decide +kernel
theorem dX2_stepUp_37 : decode cX2_stepUp 37 = .ok (.return_, 1) := by decide +kernel
set_option maxRecDepth 20000 in
theorem ggX2_stepDown_X2_goOver : GoodIn wsX2_stepDown wsX2_goOver := goodIn_r _ [7, 8, 9, 15, 16, 17, 18, 19, 20, 21, 22, 23, 24, 25] (by decide +kernel) (by decide +kernel)
set_option maxRecDepth 20000 in
theorem gX2_stepDown_X2_goOver : GoodIn wsX2_stepDown (wsV RX2 58 RX2 yX2_goOver wsX2_goOver) := goodIn_app (goodIn_of _ (by decide +kernel)) ggX2_stepDown_X2_goOver
set_option maxRecDepth 20000 in
theorem ggX2_stepDown_X2_takeWaitingTop : GoodIn wsX2_stepDown wsX2_takeWaitingTop := goodIn_r _ [13, 14, 2, 15, 16, 17, 18, 19, 20, 21, 22, 23, 24, 25] (by decide +kernel) (by decide +kernel)
set_option maxRecDepth 20000 in
theorem gX2_stepDown_X2_takeWaitingTop : GoodIn wsX2_stepDown (wsV RX2 61 RX2 yX2_takeWaitingTop wsX2_takeWaitingTop) := goodIn_app (goodIn_of _ (by decide +kernel)) ggX2_stepDown_X2_takeWaitingTop
theorem dX2_stepDown_0 : decode cX2_stepDown 0 = .ok (.aload_n 0, 1) := by decide +kernel
theorem dX2_stepDown_1 : decode cX2_stepDown 1 = .ok (.getfield 30, 3) := by decide +kernel
theorem dX2_stepDown_4 : decode cX2_stepDown 4 = .ok (.ifCond .ne 22, 3) := by decide +kernel
theorem dX2_stepDown_7 : decode cX2_stepDown 7 = .ok (.aload_n 0, 1) := by decide +kernel
theorem dX2_stepDown_8 : decode cX2_stepDown 8 = .ok (.invokevirtual 58, 3) := by decide +kernel
theorem dX2_stepDown_11 : decode cX2_stepDown 11 = .ok (.aload_n 0, 1) := by decide +kernel
theorem dX2_stepDown_12 : decode cX2_stepDown 12 = .ok (.invokevirtual 61, 3) := by decide +kernel
theorem dX2_stepDown_15 : decode cX2_stepDown 15 = .ok (.aload_n 0, 1) := by decide +kernel
theorem dX2_stepDown_16 : decode cX2_stepDown 16 = .ok (.aload_n 0, 1) := by decide +kernel
theorem dX2_stepDown_17 : decode cX2_stepDown 17 = .ok (.getfield 15, 3) := by decide +kernel
theorem dX2_stepDown_20 : decode cX2_stepDown 20 = .ok (.putfield 30, 3) := by decide +kernel
theorem dX2_stepDown_23 : decode cX2_stepDown 23 = .ok (.goto 13, 3) := by decide +kernel
theorem dX2_stepDown_26 : decode cX2_stepDown 26 = .ok (.aload_n 0, 1) := by decide +kernel
theorem dX2_stepDown_27 : decode cX2_stepDown 27 = .ok (.dup, 1) := by decide +kernel
theorem dX2_stepDown_28 : decode cX2_stepDown 28 = .ok (.getfield 30, 3) := by decide +kernel
theorem dX2_stepDown_31 : decode cX2_stepDown 31 = .ok (.iconst 1, 1) := by decide +kernel
theorem dX2_stepDown_32 : decode cX2_stepDown 32 = .ok (.isub, 1) := by decide +kernel
theorem dX2_stepDown_33 : decode cX2_stepDown 33 = .ok (.putfield 30, 3) := by decide +kernel
theorem dX2_stepDown_36 : decode cX2_stepDown 36 = .ok (.return_, 1) := by decide +kernel
set_option maxRecDepth 20000 in
theorem ggX2_stepBothWays_X2_goOver : GoodIn wsX2_stepBothWays wsX2_goOver := goodIn_r _ [8, 9, 10, 16, 17, 18, 19, 20, 21, 22, 23, 24, 25, 26] (by decide +kernel) (by decide +kernel)
set_option maxRecDepth 20000 in
theorem gX2_stepBothWays_X2_goOver : GoodIn wsX2_stepBothWays (wsV RX2 58 RX2 yX2_goOver wsX2_goOver) := goodIn_app (goodIn_of _ (by decide +kernel)) ggX2_stepBothWays_X2_goOver
set_option maxRecDepth 20000 in
theorem ggX2_stepBothWays_X2_takeWaitingTop : GoodIn wsX2_stepBothWays wsX2_takeWaitingTop := goodIn_r _ [14, 15, 3, 16, 17, 18, 19, 20, 21, 22, 23, 24, 25, 26] (by decide +kernel) (by decide +kernel)
set_option maxRecDepth 20000 in
theorem gX2_stepBothWays_X2_takeWaitingTop : GoodIn wsX2_stepBothWays (wsV RX2 61 RX2 yX2_takeWaitingTop wsX2_takeWaitingTop) := goodIn_app (goodIn_of _ (by decide +kernel)) ggX2_stepBothWays_X2_takeWaitingTop
theorem dX2_stepBothWays_0 : decode cX2_stepBothWays 0 = .ok (.aload_n 0, 1) := by decide +kernel
theorem dX2_stepBothWays_1 : decode cX2_stepBothWays 1 = .ok (.getfield 24, 3) := by decide +kernel
theorem dX2_stepBothWays_4 : decode cX2_stepBothWays 4 = .ok (.iconst 1, 1) := by decide +kernel
theorem dX2_stepBothWays_5 : decode cX2_stepBothWays 5 = .ok (.if_icmp .ne 26, 3) := by decide +kernel
theorem dX2_stepBothWays_8 : decode cX2_stepBothWays 8 = .ok (.aload_n 0, 1) := by decide +kernel
theorem dX2_stepBothWays_9 : decode cX2_stepBothWays 9 = .ok (.getfield 30, 3) := by decide +kernel
theorem dX2_stepBothWays_12 : decode cX2_stepBothWays 12 = .ok (.aload_n 0, 1) := by decide +kernel
theorem dX2_stepBothWays_13 : decode cX2_stepBothWays 13 = .ok (.getfield 15, 3) := by decide +kernel
theorem dX2_stepBothWays_16 : decode cX2_stepBothWays 16 = .ok (.if_icmp .ne 15, 3) := by decide +kernel
theorem dX2_stepBothWays_19 : decode cX2_stepBothWays 19 = .ok (.aload_n 0, 1) := by decide +kernel
theorem dX2_stepBothWays_20 : decode cX2_stepBothWays 20 = .ok (.invokevirtual 58, 3) := by decide +kernel
theorem dX2_stepBothWays_23 : decode cX2_stepBothWays 23 = .ok (.aload_n 0, 1) := by decide +kernel
theorem dX2_stepBothWays_24 : decode cX2_stepBothWays 24 = .ok (.iconst 0, 1) := by decide +kernel
theorem dX2_stepBothWays_25 : decode cX2_stepBothWays 25 = .ok (.putfield 24, 3) := by decide +kernel
theorem dX2_stepBothWays_28 : decode cX2_stepBothWays 28 = .ok (.goto 30, 3) := by decide +kernel
theorem dX2_stepBothWays_31 : decode cX2_stepBothWays 31 = .ok (.aload_n 0, 1) := by decide +kernel
theorem dX2_stepBothWays_32 : decode cX2_stepBothWays 32 = .ok (.getfield 24, 3) := by decide +kernel
theorem dX2_stepBothWays_35 : decode cX2_stepBothWays 35 = .ok (.ifCond .ne 23, 3) := by decide +kernel
theorem dX2_stepBothWays_38 : decode cX2_stepBothWays 38 = .ok (.aload_n 0, 1) := by decide +kernel
theorem dX2_stepBothWays_39 : decode cX2_stepBothWays 39 = .ok (.getfield 30, 3) := by decide +kernel
theorem dX2_stepBothWays_42 : decode cX2_stepBothWays 42 = .ok (.ifCond .ne 16, 3) := by decide +kernel
theorem dX2_stepBothWays_45 : decode cX2_stepBothWays 45 = .ok (.aload_n 0, 1) := by decide +kernel
theorem dX2_stepBothWays_46 : decode cX2_stepBothWays 46 = .ok (.invokevirtual 58, 3) := by decide +kernel
theorem dX2_stepBothWays_49 : decode cX2_stepBothWays 49 = .ok (.aload_n 0, 1) := by decide +kernel
theorem dX2_stepBothWays_50 : decode cX2_stepBothWays 50 = .ok (.iconst 1, 1) := by decide +kernel
theorem dX2_stepBothWays_51 : decode cX2_stepBothWays 51 = .ok (.putfield 24, 3) := by decide +kernel
theorem dX2_stepBothWays_54 : decode cX2_stepBothWays 54 = .ok (.aload_n 0, 1) := by decide +kernel
theorem dX2_stepBothWays_55 : decode cX2_stepBothWays 55 = .ok (.invokevirtual 61, 3) := by decide +kernel
theorem dX2_stepBothWays_58 : decode cX2_stepBothWays 58 = .ok (.aload_n 0, 1) := by decide +kernel
theorem dX2_stepBothWays_59 : decode cX2_stepBothWays 59 = .ok (.dup, 1) := by decide +kernel
theorem dX2_stepBothWays_60 : decode cX2_stepBothWays 60 = .ok (.getfield 30, 3) := by decide +kernel
theorem dX2_stepBothWays_63 : decode cX2_stepBothWays 63 = .ok (.aload_n 0, 1) := by decide +kernel
theorem dX2_stepBothWays_64 : decode cX2_stepBothWays 64 = .ok (.getfield 24, 3) := by decide +kernel
theorem dX2_stepBothWays_67 : decode cX2_stepBothWays 67 = .ok (.iconst 1, 1) := by decide +kernel
theorem dX2_stepBothWays_68 : decode cX2_stepBothWays 68 = .ok (.if_icmp .ne 7, 3) := by decide +kernel
theorem dX2_stepBothWays_71 : decode cX2_stepBothWays 71 = .ok (.iconst 1, 1) := by decide +kernel
theorem dX2_stepBothWays_72 : decode cX2_stepBothWays 72 = .ok (.goto 4, 3) := by decide +kernel
theorem dX2_stepBothWays_75 : decode cX2_stepBothWays 75 = .ok (.iconst (-1), 1) := by decide +kernel
theorem dX2_stepBothWays_76 : decode cX2_stepBothWays 76 = .ok (.iadd, 1) := by decide +kernel
theorem dX2_stepBothWays_77 : decode cX2_stepBothWays 77 = .ok (.putfield 30, 3) := by decide +kernel
theorem dX2_stepBothWays_80 : decode cX2_stepBothWays 80 = .ok (.return_, 1) := by decide +kernel
theorem dX2_goOver_0 : decode cX2_goOver 0 = .ok (.aload_n 0, 1) := by decide +kernel
theorem dX2_goOver_1 : decode cX2_goOver 1 = .ok (.iconst 1, 1) := by decide +kernel
theorem dX2_goOver_2 : decode cX2_goOver 2 = .ok (.putfield 39, 3) := by decide +kernel
theorem dX2_goOver_5 : decode cX2_goOver 5 = .ok (.aload_n 0, 1) := by decide +kernel
theorem dX2_goOver_6 : decode cX2_goOver 6 = .ok (.dup, 1) := by decide +kernel
theorem dX2_goOver_7 : decode cX2_goOver 7 = .ok (.getfield 36, 3) := by decide +kernel
theorem dX2_goOver_10 : decode cX2_goOver 10 = .ok (.iconst 1, 1) := by decide +kernel
theorem dX2_goOver_11 : decode cX2_goOver 11 = .ok (.iadd, 1) := by decide +kernel
theorem dX2_goOver_12 : decode cX2_goOver 12 = .ok (.putfield 36, 3) := by decide +kernel
theorem dX2_goOver_15 : decode cX2_goOver 15 = .ok (.return_, 1) := by decide +kernel
theorem dX2_takeWaitingTop_0 : decode cX2_takeWaitingTop 0 = .ok (.aload_n 0, 1) := by decide +kernel
theorem dX2_takeWaitingTop_1 : decode cX2_takeWaitingTop 1 = .ok (.getfield 27, 3) := by decide +kernel
theorem dX2_takeWaitingTop_4 : decode cX2_takeWaitingTop 4 = .ok (.bipush (-9), 2) := by decide +kernel
theorem dX2_takeWaitingTop_6 : decode cX2_takeWaitingTop 6 = .ok (.if_icmp .eq 17, 3) := by decide +kernel
theorem dX2_takeWaitingTop_9 : decode cX2_takeWaitingTop 9 = .ok (.aload_n 0, 1) := by decide +kernel
theorem dX2_takeWaitingTop_10 : decode cX2_takeWaitingTop 10 = .ok (.aload_n 0, 1) := by decide +kernel
theorem dX2_takeWaitingTop_11 : decode cX2_takeWaitingTop 11 = .ok (.getfield 27, 3) := by decide +kernel
theorem dX2_takeWaitingTop_14 : decode cX2_takeWaitingTop 14 = .ok (.putfield 15, 3) := by decide +kernel
theorem dX2_takeWaitingTop_17 : decode cX2_takeWaitingTop 17 = .ok (.aload_n 0, 1) := by decide +kernel
theorem dX2_takeWaitingTop_18 : decode cX2_takeWaitingTop 18 = .ok (.bipush (-9), 2) := by decide +kernel
theorem dX2_takeWaitingTop_20 : decode cX2_takeWaitingTop 20 = .ok (.putfield 27, 3) := by decide +kernel
theorem dX2_takeWaitingTop_23 : decode cX2_takeWaitingTop 23 = .ok (.return_, 1) := by decide +kernel
theorem dX2_tell_0 : decode cX2_tell 0 = .ok (.iload_n 1, 1) := by decide +kernel
theorem dX2_tell_1 : decode cX2_tell 1 = .ok (.tableswitch 96 0 8 #[51, 56, 61, 66, 71, 76, 81, 86, 91], 51) := by decide +kernel
theorem dX2_tell_52 : decode cX2_tell 52 = .ok (.aload_n 0, 1) := by decide +kernel
theorem dX2_tell_53 : decode cX2_tell 53 = .ok (.getfield 30, 3) := by decide +kernel
theorem dX2_tell_56 : decode cX2_tell 56 = .ok (.ireturn, 1) := by decide +kernel
theorem dX2_tell_57 : decode cX2_tell 57 = .ok (.aload_n 0, 1) := by decide +kernel
theorem dX2_tell_58 : decode cX2_tell 58 = .ok (.getfield 15, 3) := by decide +kernel
theorem dX2_tell_61 : decode cX2_tell 61 = .ok (.ireturn, 1) := by decide +kernel
theorem dX2_tell_62 : decode cX2_tell 62 = .ok (.aload_n 0, 1) := by decide +kernel
theorem dX2_tell_63 : decode cX2_tell 63 = .ok (.getfield 9, 3) := by decide +kernel
theorem dX2_tell_66 : decode cX2_tell 66 = .ok (.ireturn, 1) := by decide +kernel
theorem dX2_tell_67 : decode cX2_tell 67 = .ok (.aload_n 0, 1) := by decide +kernel
theorem dX2_tell_68 : decode cX2_tell 68 = .ok (.getfield 18, 3) := by decide +kernel
theorem dX2_tell_71 : decode cX2_tell 71 = .ok (.ireturn, 1) := by decide +kernel
theorem dX2_tell_72 : decode cX2_tell 72 = .ok (.aload_n 0, 1) := by decide +kernel
theorem dX2_tell_73 : decode cX2_tell 73 = .ok (.getfield 21, 3) := by decide +kernel
theorem dX2_tell_76 : decode cX2_tell 76 = .ok (.ireturn, 1) := by decide +kernel
theorem dX2_tell_77 : decode cX2_tell 77 = .ok (.aload_n 0, 1) := by decide +kernel
theorem dX2_tell_78 : decode cX2_tell 78 = .ok (.getfield 33, 3) := by decide +kernel
theorem dX2_tell_81 : decode cX2_tell 81 = .ok (.ireturn, 1) := by decide +kernel
theorem dX2_tell_82 : decode cX2_tell 82 = .ok (.aload_n 0, 1) := by decide +kernel
theorem dX2_tell_83 : decode cX2_tell 83 = .ok (.getfield 24, 3) := by decide +kernel
theorem dX2_tell_86 : decode cX2_tell 86 = .ok (.ireturn, 1) := by decide +kernel
theorem dX2_tell_87 : decode cX2_tell 87 = .ok (.aload_n 0, 1) := by decide +kernel
theorem dX2_tell_88 : decode cX2_tell 88 = .ok (.getfield 36, 3) := by decide +kernel
theorem dX2_tell_91 : decode cX2_tell 91 = .ok (.ireturn, 1) := by decide +kernel
theorem dX2_tell_92 : decode cX2_tell 92 = .ok (.aload_n 0, 1) := by decide +kernel
theorem dX2_tell_93 : decode cX2_tell 93 = .ok (.getfield 27, 3) := by decide +kernel
theorem dX2_tell_96 : decode cX2_tell 96 = .ok (.ireturn, 1) := by decide +kernel
theorem dX2_tell_97 : decode cX2_tell 97 = .ok (.bipush (-2), 2) := by decide +kernel
theorem dX2_tell_99 : decode cX2_tell 99 = .ok (.ireturn, 1) := by decide +kernel
theorem dX3_init_0 : decode cX3_init 0 = .ok (.aload_n 0, 1) := by decide +kernel
theorem dX3_init_1 : decode cX3_init 1 = .ok (.invokespecial 3, 3) := by decide +kernel
theorem dX3_init_4 : decode cX3_init 4 = .ok (.aload_n 0, 1) := by decide +kernel
theorem dX3_init_5 : decode cX3_init 5 = .ok (.iconst 1, 1) := by decide +kernel
theorem dX3_init_6 : decode cX3_init 6 = .ok (.putfield 9, 3) := by decide +kernel
theorem dX3_init_9 : decode cX3_init 9 = .ok (.return_, 1) := by decide +kernel
theorem dX3_look_0 : decode cX3_look 0 = .ok (.aload_n 0, 1) := by decide +kernel
theorem dX3_look_1 : decode cX3_look 1 = .ok (.iconst 0, 1) := by decide +kernel
theorem dX3_look_2 : decode cX3_look 2 = .ok (.putfield 15, 3) := by decide +kernel
theorem dX3_look_5 : decode cX3_look 5 = .ok (.aload_n 0, 1) := by decide +kernel
theorem dX3_look_6 : decode cX3_look 6 = .ok (.getfield 18, 3) := by decide +kernel
theorem dX3_look_9 : decode cX3_look 9 = .ok (.aload_n 0, 1) := by decide +kernel
theorem dX3_look_10 : decode cX3_look 10 = .ok (.getfield 21, 3) := by decide +kernel
theorem dX3_look_13 : decode cX3_look 13 = .ok (.if_icmp .ne 9, 3) := by decide +kernel
theorem dX3_look_16 : decode cX3_look 16 = .ok (.aload_n 0, 1) := by decide +kernel
theorem dX3_look_17 : decode cX3_look 17 = .ok (.iconst 0, 1) := by decide +kernel
theorem dX3_look_18 : decode cX3_look 18 = .ok (.putfield 24, 3) := by decide +kernel
theorem dX3_look_21 : decode cX3_look 21 = .ok (.return_, 1) := by decide +kernel
theorem dX3_look_22 : decode cX3_look 22 = .ok (.aload_n 0, 1) := by decide +kernel
theorem dX3_look_23 : decode cX3_look 23 = .ok (.dup, 1) := by decide +kernel
theorem dX3_look_24 : decode cX3_look 24 = .ok (.getfield 24, 3) := by decide +kernel
theorem dX3_look_27 : decode cX3_look 27 = .ok (.iconst 1, 1) := by decide +kernel
theorem dX3_look_28 : decode cX3_look 28 = .ok (.iadd, 1) := by decide +kernel
theorem dX3_look_29 : decode cX3_look 29 = .ok (.putfield 24, 3) := by decide +kernel
theorem dX3_look_32 : decode cX3_look 32 = .ok (.aload_n 0, 1) := by decide +kernel
theorem dX3_look_33 : decode cX3_look 33 = .ok (.getfield 24, 3) := by decide +kernel
theorem dX3_look_36 : decode cX3_look 36 = .ok (.aload_n 0, 1) := by decide +kernel
theorem dX3_look_37 : decode cX3_look 37 = .ok (.getfield 9, 3) := by decide +kernel
theorem dX3_look_40 : decode cX3_look 40 = .ok (.if_icmp .lt 33, 3) := by decide +kernel
theorem dX3_look_43 : decode cX3_look 43 = .ok (.aload_n 0, 1) := by decide +kernel
theorem dX3_look_44 : decode cX3_look 44 = .ok (.aload_n 0, 1) := by decide +kernel
theorem dX3_look_45 : decode cX3_look 45 = .ok (.getfield 18, 3) := by decide +kernel
theorem dX3_look_48 : decode cX3_look 48 = .ok (.putfield 21, 3) := by decide +kernel
theorem dX3_look_51 : decode cX3_look 51 = .ok (.aload_n 0, 1) := by decide +kernel
theorem dX3_look_52 : decode cX3_look 52 = .ok (.iconst 0, 1) := by decide +kernel
theorem dX3_look_53 : decode cX3_look 53 = .ok (.putfield 24, 3) := by decide +kernel
theorem dX3_look_56 : decode cX3_look 56 = .ok (.aload_n 0, 1) := by decide +kernel
theorem dX3_look_57 : decode cX3_look 57 = .ok (.aload_n 0, 1) := by decide +kernel
theorem dX3_look_58 : decode cX3_look 58 = .ok (.getfield 21, 3) := by decide +kernel
theorem dX3_look_61 : decode cX3_look 61 = .ok (.iconst 1, 1) := by decide +kernel
theorem dX3_look_62 : decode cX3_look 62 = .ok (.if_icmp .ne 7, 3) := by decide +kernel
theorem dX3_look_65 : decode cX3_look 65 = .ok (.iconst 1, 1) := by decide +kernel
theorem dX3_look_66 : decode cX3_look 66 = .ok (.goto 4, 3) := by decide +kernel
theorem dX3_look_69 : decode cX3_look 69 = .ok (.iconst 2, 1) := by decide +kernel
theorem dX3_look_70 : decode cX3_look 70 = .ok (.putfield 15, 3) := by decide +kernel
theorem dX3_look_73 : decode cX3_look 73 = .ok (.return_, 1) := by decide +kernel
theorem dX3_tell_0 : decode cX3_tell 0 = .ok (.iload_n 1, 1) := by decide +kernel
theorem dX3_tell_1 : decode cX3_tell 1 = .ok (.tableswitch 51 0 3 #[31, 36, 41, 46], 31) := by decide +kernel
theorem dX3_tell_32 : decode cX3_tell 32 = .ok (.aload_n 0, 1) := by decide +kernel
theorem dX3_tell_33 : decode cX3_tell 33 = .ok (.getfield 18, 3) := by decide +kernel
theorem dX3_tell_36 : decode cX3_tell 36 = .ok (.ireturn, 1) := by decide +kernel
theorem dX3_tell_37 : decode cX3_tell 37 = .ok (.aload_n 0, 1) := by decide +kernel
theorem dX3_tell_38 : decode cX3_tell 38 = .ok (.getfield 21, 3) := by decide +kernel
theorem dX3_tell_41 : decode cX3_tell 41 = .ok (.ireturn, 1) := by decide +kernel
theorem dX3_tell_42 : decode cX3_tell 42 = .ok (.aload_n 0, 1) := by decide +kernel
theorem dX3_tell_43 : decode cX3_tell 43 = .ok (.getfield 24, 3) := by decide +kernel
theorem dX3_tell_46 : decode cX3_tell 46 = .ok (.ireturn, 1) := by decide +kernel
theorem dX3_tell_47 : decode cX3_tell 47 = .ok (.aload_n 0, 1) := by decide +kernel
theorem dX3_tell_48 : decode cX3_tell 48 = .ok (.getfield 9, 3) := by decide +kernel
theorem dX3_tell_51 : decode cX3_tell 51 = .ok (.ireturn, 1) := by decide +kernel
theorem dX3_tell_52 : decode cX3_tell 52 = .ok (.bipush (-2), 2) := by decide +kernel
theorem dX3_tell_54 : decode cX3_tell 54 = .ok (.ireturn, 1) := by decide +kernel
theorem dX4_init_0 : decode cX4_init 0 = .ok (.aload_n 0, 1) := by decide +kernel
theorem dX4_init_1 : decode cX4_init 1 = .ok (.invokespecial 3, 3) := by decide +kernel
theorem dX4_init_4 : decode cX4_init 4 = .ok (.aload_n 0, 1) := by decide +kernel
theorem dX4_init_5 : decode cX4_init 5 = .ok (.bipush (-9), 2) := by decide +kernel
theorem dX4_init_7 : decode cX4_init 7 = .ok (.putfield 9, 3) := by decide +kernel
theorem dX4_init_10 : decode cX4_init 10 = .ok (.return_, 1) := by decide +kernel
theorem dX4_takeHigh_0 : decode cX4_takeHigh 0 = .ok (.aload_n 0, 1) := by decide +kernel
theorem dX4_takeHigh_1 : decode cX4_takeHigh 1 = .ok (.getfield 15, 3) := by decide +kernel
theorem dX4_takeHigh_4 : decode cX4_takeHigh 4 = .ok (.ifCond .eq 12, 3) := by decide +kernel
theorem dX4_takeHigh_7 : decode cX4_takeHigh 7 = .ok (.aload_n 0, 1) := by decide +kernel
theorem dX4_takeHigh_8 : decode cX4_takeHigh 8 = .ok (.getfield 9, 3) := by decide +kernel
theorem dX4_takeHigh_11 : decode cX4_takeHigh 11 = .ok (.bipush (-9), 2) := by decide +kernel
theorem dX4_takeHigh_13 : decode cX4_takeHigh 13 = .ok (.if_icmp .ne 5, 3) := by decide +kernel
theorem dX4_takeHigh_16 : decode cX4_takeHigh 16 = .ok (.iload_n 1, 1) := by decide +kernel
theorem dX4_takeHigh_17 : decode cX4_takeHigh 17 = .ok (.ireturn, 1) := by decide +kernel
theorem dX4_takeHigh_18 : decode cX4_takeHigh 18 = .ok (.aload_n 0, 1) := by decide +kernel
theorem dX4_takeHigh_19 : decode cX4_takeHigh 19 = .ok (.getfield 9, 3) := by decide +kernel
theorem dX4_takeHigh_22 : decode cX4_takeHigh 22 = .ok (.istore_n 2, 1) := by decide +kernel
theorem dX4_takeHigh_23 : decode cX4_takeHigh 23 = .ok (.aload_n 0, 1) := by decide +kernel
theorem dX4_takeHigh_24 : decode cX4_takeHigh 24 = .ok (.bipush (-9), 2) := by decide +kernel
theorem dX4_takeHigh_26 : decode cX4_takeHigh 26 = .ok (.putfield 9, 3) := by decide +kernel
theorem dX4_takeHigh_29 : decode cX4_takeHigh 29 = .ok (.iload_n 2, 1) := by decide +kernel
theorem dX4_takeHigh_30 : decode cX4_takeHigh 30 = .ok (.ireturn, 1) := by decide +kernel
theorem dX5_init_0 : decode cX5_init 0 = .ok (.aload_n 0, 1) := by decide +kernel
theorem dX5_init_1 : decode cX5_init 1 = .ok (.invokespecial 3, 3) := by decide +kernel
theorem dX5_init_4 : decode cX5_init 4 = .ok (.aload_n 0, 1) := by decide +kernel
theorem dX5_init_5 : decode cX5_init 5 = .ok (.bipush 8, 2) := by decide +kernel
theorem dX5_init_7 : decode cX5_init 7 = .ok (.newarray .int, 2) := by decide +kernel
theorem dX5_init_9 : decode cX5_init 9 = .ok (.putfield 9, 3) := by decide +kernel
theorem dX5_init_12 : decode cX5_init 12 = .ok (.aload_n 0, 1) := by decide +kernel
theorem dX5_init_13 : decode cX5_init 13 = .ok (.bipush 24, 2) := by decide +kernel
theorem dX5_init_15 : decode cX5_init 15 = .ok (.newarray .int, 2) := by decide +kernel
theorem dX5_init_17 : decode cX5_init 17 = .ok (.putfield 15, 3) := by decide +kernel
theorem dX5_init_20 : decode cX5_init 20 = .ok (.aload_n 0, 1) := by decide +kernel
theorem dX5_init_21 : decode cX5_init 21 = .ok (.bipush 24, 2) := by decide +kernel
theorem dX5_init_23 : decode cX5_init 23 = .ok (.newarray .int, 2) := by decide +kernel
theorem dX5_init_25 : decode cX5_init 25 = .ok (.putfield 18, 3) := by decide +kernel
theorem dX5_init_28 : decode cX5_init 28 = .ok (.aload_n 0, 1) := by decide +kernel
theorem dX5_init_29 : decode cX5_init 29 = .ok (.bipush 24, 2) := by decide +kernel
theorem dX5_init_31 : decode cX5_init 31 = .ok (.newarray .int, 2) := by decide +kernel
theorem dX5_init_33 : decode cX5_init 33 = .ok (.putfield 21, 3) := by decide +kernel
theorem dX5_init_36 : decode cX5_init 36 = .ok (.return_, 1) := by decide +kernel
theorem dX5_drive_0 : decode cX5_drive 0 = .ok (.aload_n 0, 1) := by decide +kernel
theorem dX5_drive_1 : decode cX5_drive 1 = .ok (.getfield 9, 3) := by decide +kernel
theorem dX5_drive_4 : decode cX5_drive 4 = .ok (.iload_n 1, 1) := by decide +kernel
theorem dX5_drive_5 : decode cX5_drive 5 = .ok (.iaload, 1) := by decide +kernel
theorem dX5_drive_6 : decode cX5_drive 6 = .ok (.iload_n 2, 1) := by decide +kernel
theorem dX5_drive_7 : decode cX5_drive 7 = .ok (.if_icmp .ne 4, 3) := by decide +kernel
theorem dX5_drive_10 : decode cX5_drive 10 = .ok (.return_, 1) := by decide +kernel
theorem dX5_drive_11 : decode cX5_drive 11 = .ok (.aload_n 0, 1) := by decide +kernel
theorem dX5_drive_12 : decode cX5_drive 12 = .ok (.getfield 9, 3) := by decide +kernel
theorem dX5_drive_15 : decode cX5_drive 15 = .ok (.iload_n 1, 1) := by decide +kernel
theorem dX5_drive_16 : decode cX5_drive 16 = .ok (.iload_n 2, 1) := by decide +kernel
theorem dX5_drive_17 : decode cX5_drive 17 = .ok (.iastore, 1) := by decide +kernel
theorem dX5_drive_18 : decode cX5_drive 18 = .ok (.aload_n 0, 1) := by decide +kernel
theorem dX5_drive_19 : decode cX5_drive 19 = .ok (.getfield 15, 3) := by decide +kernel
theorem dX5_drive_22 : decode cX5_drive 22 = .ok (.aload_n 0, 1) := by decide +kernel
theorem dX5_drive_23 : decode cX5_drive 23 = .ok (.getfield 24, 3) := by decide +kernel
theorem dX5_drive_26 : decode cX5_drive 26 = .ok (.iload_n 3, 1) := by decide +kernel
theorem dX5_drive_27 : decode cX5_drive 27 = .ok (.iastore, 1) := by decide +kernel
theorem dX5_drive_28 : decode cX5_drive 28 = .ok (.aload_n 0, 1) := by decide +kernel
theorem dX5_drive_29 : decode cX5_drive 29 = .ok (.getfield 18, 3) := by decide +kernel
theorem dX5_drive_32 : decode cX5_drive 32 = .ok (.aload_n 0, 1) := by decide +kernel
theorem dX5_drive_33 : decode cX5_drive 33 = .ok (.getfield 24, 3) := by decide +kernel
theorem dX5_drive_36 : decode cX5_drive 36 = .ok (.iload_n 1, 1) := by decide +kernel
theorem dX5_drive_37 : decode cX5_drive 37 = .ok (.iastore, 1) := by decide +kernel
theorem dX5_drive_38 : decode cX5_drive 38 = .ok (.aload_n 0, 1) := by decide +kernel
theorem dX5_drive_39 : decode cX5_drive 39 = .ok (.getfield 21, 3) := by decide +kernel
theorem dX5_drive_42 : decode cX5_drive 42 = .ok (.aload_n 0, 1) := by decide +kernel
theorem dX5_drive_43 : decode cX5_drive 43 = .ok (.getfield 24, 3) := by decide +kernel
theorem dX5_drive_46 : decode cX5_drive 46 = .ok (.iload_n 2, 1) := by decide +kernel
theorem dX5_drive_47 : decode cX5_drive 47 = .ok (.iastore, 1) := by decide +kernel
theorem dX5_drive_48 : decode cX5_drive 48 = .ok (.aload_n 0, 1) := by decide +kernel
theorem dX5_drive_49 : decode cX5_drive 49 = .ok (.aload_n 0, 1) := by decide +kernel
theorem dX5_drive_50 : decode cX5_drive 50 = .ok (.getfield 24, 3) := by decide +kernel
theorem dX5_drive_53 : decode cX5_drive 53 = .ok (.iconst 1, 1) := by decide +kernel
theorem dX5_drive_54 : decode cX5_drive 54 = .ok (.iadd, 1) := by decide +kernel
theorem dX5_drive_55 : decode cX5_drive 55 = .ok (.bipush 24, 2) := by decide +kernel
theorem dX5_drive_57 : decode cX5_drive 57 = .ok (.irem, 1) := by decide +kernel
theorem dX5_drive_58 : decode cX5_drive 58 = .ok (.putfield 24, 3) := by decide +kernel
theorem dX5_drive_61 : decode cX5_drive 61 = .ok (.aload_n 0, 1) := by decide +kernel
theorem dX5_drive_62 : decode cX5_drive 62 = .ok (.aload_n 0, 1) := by decide +kernel
theorem dX5_drive_63 : decode cX5_drive 63 = .ok (.getfield 28, 3) := by decide +kernel
theorem dX5_drive_66 : decode cX5_drive 66 = .ok (.iconst 1, 1) := by decide +kernel
theorem dX5_drive_67 : decode cX5_drive 67 = .ok (.iadd, 1) := by decide +kernel
theorem dX5_drive_68 : decode cX5_drive 68 = .ok (.bipush 24, 2) := by decide +kernel
theorem dX5_drive_70 : decode cX5_drive 70 = .ok (.invokestatic 31, 3) := by decide +kernel
theorem dX5_drive_73 : decode cX5_drive 73 = .ok (.putfield 28, 3) := by decide +kernel
theorem dX5_drive_76 : decode cX5_drive 76 = .ok (.return_, 1) := by decide +kernel
set_option maxRecDepth 20000 in
theorem ggX5_tell_X7_within : GoodIn wsX5_tell wsX7_within := goodIn_r _ [8] (by decide +kernel) (by decide +kernel)
set_option maxRecDepth 20000 in
theorem gX5_tell_X7_within_n37 : GoodIn wsX5_tell (wsX7_within) := ggX5_tell_X7_within
theorem dX5_tell_0 : decode cX5_tell 0 = .ok (.iload_n 2, 1) := by decide +kernel
theorem dX5_tell_1 : decode cX5_tell 1 = .ok (.iconst 0, 1) := by decide +kernel
theorem dX5_tell_2 : decode cX5_tell 2 = .ok (.iconst 2, 1) := by decide +kernel
theorem dX5_tell_3 : decode cX5_tell 3 = .ok (.invokestatic 37, 3) := by decide +kernel
theorem dX5_tell_6 : decode cX5_tell 6 = .ok (.ifCond .ne 6, 3) := by decide +kernel
theorem dX5_tell_9 : decode cX5_tell 9 = .ok (.bipush (-2), 2) := by decide +kernel
theorem dX5_tell_11 : decode cX5_tell 11 = .ok (.ireturn, 1) := by decide +kernel
theorem dX5_tell_12 : decode cX5_tell 12 = .ok (.iload_n 1, 1) := by decide +kernel
theorem dX5_tell_13 : decode cX5_tell 13 = .ok (.aload_n 0, 1) := by decide +kernel
theorem dX5_tell_14 : decode cX5_tell 14 = .ok (.getfield 28, 3) := by decide +kernel
theorem dX5_tell_17 : decode cX5_tell 17 = .ok (.if_icmp .lt 6, 3) := by decide +kernel
theorem dX5_tell_20 : decode cX5_tell 20 = .ok (.bipush (-9), 2) := by decide +kernel
theorem dX5_tell_22 : decode cX5_tell 22 = .ok (.ireturn, 1) := by decide +kernel
theorem dX5_tell_23 : decode cX5_tell 23 = .ok (.aload_n 0, 1) := by decide +kernel
theorem dX5_tell_24 : decode cX5_tell 24 = .ok (.getfield 24, 3) := by decide +kernel
theorem dX5_tell_27 : decode cX5_tell 27 = .ok (.bipush 24, 2) := by decide +kernel
theorem dX5_tell_29 : decode cX5_tell 29 = .ok (.iadd, 1) := by decide +kernel
theorem dX5_tell_30 : decode cX5_tell 30 = .ok (.iconst 1, 1) := by decide +kernel
theorem dX5_tell_31 : decode cX5_tell 31 = .ok (.isub, 1) := by decide +kernel
theorem dX5_tell_32 : decode cX5_tell 32 = .ok (.iload_n 1, 1) := by decide +kernel
theorem dX5_tell_33 : decode cX5_tell 33 = .ok (.isub, 1) := by decide +kernel
theorem dX5_tell_34 : decode cX5_tell 34 = .ok (.bipush 24, 2) := by decide +kernel
theorem dX5_tell_36 : decode cX5_tell 36 = .ok (.irem, 1) := by decide +kernel
theorem dX5_tell_37 : decode cX5_tell 37 = .ok (.istore_n 3, 1) := by decide +kernel
theorem dX5_tell_38 : decode cX5_tell 38 = .ok (.iload_n 2, 1) := by decide +kernel
theorem dX5_tell_39 : decode cX5_tell 39 = .ok (.ifCond .ne 10, 3) := by decide +kernel
theorem dX5_tell_42 : decode cX5_tell 42 = .ok (.aload_n 0, 1) := by decide +kernel
theorem dX5_tell_43 : decode cX5_tell 43 = .ok (.getfield 15, 3) := by decide +kernel
theorem dX5_tell_46 : decode cX5_tell 46 = .ok (.iload_n 3, 1) := by decide +kernel
theorem dX5_tell_47 : decode cX5_tell 47 = .ok (.iaload, 1) := by decide +kernel
theorem dX5_tell_48 : decode cX5_tell 48 = .ok (.ireturn, 1) := by decide +kernel
theorem dX5_tell_49 : decode cX5_tell 49 = .ok (.iload_n 2, 1) := by decide +kernel
theorem dX5_tell_50 : decode cX5_tell 50 = .ok (.iconst 1, 1) := by decide +kernel
theorem dX5_tell_51 : decode cX5_tell 51 = .ok (.if_icmp .ne 12, 3) := by decide +kernel
theorem dX5_tell_54 : decode cX5_tell 54 = .ok (.aload_n 0, 1) := by decide +kernel
theorem dX5_tell_55 : decode cX5_tell 55 = .ok (.getfield 18, 3) := by decide +kernel
theorem dX5_tell_58 : decode cX5_tell 58 = .ok (.iload_n 3, 1) := by decide +kernel
theorem dX5_tell_59 : decode cX5_tell 59 = .ok (.iaload, 1) := by decide +kernel
theorem dX5_tell_60 : decode cX5_tell 60 = .ok (.goto 9, 3) := by decide +kernel
theorem dX5_tell_63 : decode cX5_tell 63 = .ok (.aload_n 0, 1) := by decide +kernel
theorem dX5_tell_64 : decode cX5_tell 64 = .ok (.getfield 21, 3) := by decide +kernel
theorem dX5_tell_67 : decode cX5_tell 67 = .ok (.iload_n 3, 1) := by decide +kernel
theorem dX5_tell_68 : decode cX5_tell 68 = .ok (.iaload, 1) := by decide +kernel
theorem dX5_tell_69 : decode cX5_tell 69 = .ok (.ireturn, 1) := by decide +kernel
theorem dX6_init_0 : decode cX6_init 0 = .ok (.aload_n 0, 1) := by decide +kernel
theorem dX6_init_1 : decode cX6_init 1 = .ok (.invokespecial 3, 3) := by decide +kernel
theorem dX6_init_4 : decode cX6_init 4 = .ok (.aload_n 0, 1) := by decide +kernel
theorem dX6_init_5 : decode cX6_init 5 = .ok (.iconst 4, 1) := by decide +kernel
theorem dX6_init_6 : decode cX6_init 6 = .ok (.putfield 9, 3) := by decide +kernel
theorem dX6_init_9 : decode cX6_init 9 = .ok (.aload_n 0, 1) := by decide +kernel
theorem dX6_init_10 : decode cX6_init 10 = .ok (.iconst 0, 1) := by decide +kernel
theorem dX6_init_11 : decode cX6_init 11 = .ok (.putfield 15, 3) := by decide +kernel
theorem dX6_init_14 : decode cX6_init 14 = .ok (.return_, 1) := by decide +kernel
theorem dX6_setUp_0 : decode cX6_setUp 0 = .ok (.aload_n 0, 1) := by decide +kernel
theorem dX6_setUp_1 : decode cX6_setUp 1 = .ok (.iload_n 1, 1) := by decide +kernel
theorem dX6_setUp_2 : decode cX6_setUp 2 = .ok (.putfield 9, 3) := by decide +kernel
theorem dX6_setUp_5 : decode cX6_setUp 5 = .ok (.aload_n 0, 1) := by decide +kernel
theorem dX6_setUp_6 : decode cX6_setUp 6 = .ok (.iload_n 2, 1) := by decide +kernel
theorem dX6_setUp_7 : decode cX6_setUp 7 = .ok (.putfield 18, 3) := by decide +kernel
theorem dX6_setUp_10 : decode cX6_setUp 10 = .ok (.aload_n 0, 1) := by decide +kernel
theorem dX6_setUp_11 : decode cX6_setUp 11 = .ok (.iload_n 3, 1) := by decide +kernel
theorem dX6_setUp_12 : decode cX6_setUp 12 = .ok (.putfield 15, 3) := by decide +kernel
theorem dX6_setUp_15 : decode cX6_setUp 15 = .ok (.aload_n 0, 1) := by decide +kernel
theorem dX6_setUp_16 : decode cX6_setUp 16 = .ok (.iconst 0, 1) := by decide +kernel
theorem dX6_setUp_17 : decode cX6_setUp 17 = .ok (.putfield 21, 3) := by decide +kernel
theorem dX6_setUp_20 : decode cX6_setUp 20 = .ok (.aload_n 0, 1) := by decide +kernel
theorem dX6_setUp_21 : decode cX6_setUp 21 = .ok (.iconst 0, 1) := by decide +kernel
theorem dX6_setUp_22 : decode cX6_setUp 22 = .ok (.putfield 24, 3) := by decide +kernel
theorem dX6_setUp_25 : decode cX6_setUp 25 = .ok (.return_, 1) := by decide +kernel
set_option maxRecDepth 20000 in
theorem ggX6_sample_X6_twist : GoodIn wsX6_sample wsX6_twist := goodIn_r _ [7] (by decide +kernel) (by decide +kernel)
set_option maxRecDepth 20000 in
theorem gX6_sample_X6_twist : GoodIn wsX6_sample (va_wsS RX6 27 yX6_twist wsX6_twist) := goodIn_app (goodIn_of _ (by decide +kernel)) ggX6_sample_X6_twist
set_option maxRecDepth 20000 in
theorem ggX6_sample_X6_untwist : GoodIn wsX6_sample wsX6_untwist := goodIn_r _ [10] (by decide +kernel) (by decide +kernel)
set_option maxRecDepth 20000 in
theorem gX6_sample_X6_untwist : GoodIn wsX6_sample (va_wsS RX6 31 yX6_untwist wsX6_untwist) := goodIn_app (goodIn_of _ (by decide +kernel)) ggX6_sample_X6_untwist
theorem dX6_sample_0 : decode cX6_sample 0 = .ok (.aload_n 0, 1) := by decide +kernel
theorem dX6_sample_1 : decode cX6_sample 1 = .ok (.aload_n 0, 1) := by decide +kernel
theorem dX6_sample_2 : decode cX6_sample 2 = .ok (.getfield 21, 3) := by decide +kernel
theorem dX6_sample_5 : decode cX6_sample 5 = .ok (.putfield 24, 3) := by decide +kernel
theorem dX6_sample_8 : decode cX6_sample 8 = .ok (.aload_n 0, 1) := by decide +kernel
theorem dX6_sample_9 : decode cX6_sample 9 = .ok (.aload_n 0, 1) := by decide +kernel
theorem dX6_sample_10 : decode cX6_sample 10 = .ok (.getfield 15, 3) := by decide +kernel
theorem dX6_sample_13 : decode cX6_sample 13 = .ok (.iconst 1, 1) := by decide +kernel
theorem dX6_sample_14 : decode cX6_sample 14 = .ok (.if_icmp .ne 18, 3) := by decide +kernel
theorem dX6_sample_17 : decode cX6_sample 17 = .ok (.iload_n 1, 1) := by decide +kernel
theorem dX6_sample_18 : decode cX6_sample 18 = .ok (.invokestatic 27, 3) := by decide +kernel
theorem dX6_sample_21 : decode cX6_sample 21 = .ok (.iload_n 2, 1) := by decide +kernel
theorem dX6_sample_22 : decode cX6_sample 22 = .ok (.invokestatic 27, 3) := by decide +kernel
theorem dX6_sample_25 : decode cX6_sample 25 = .ok (.iand, 1) := by decide +kernel
theorem dX6_sample_26 : decode cX6_sample 26 = .ok (.invokestatic 31, 3) := by decide +kernel
theorem dX6_sample_29 : decode cX6_sample 29 = .ok (.goto 6, 3) := by decide +kernel
theorem dX6_sample_32 : decode cX6_sample 32 = .ok (.iload_n 1, 1) := by decide +kernel
theorem dX6_sample_33 : decode cX6_sample 33 = .ok (.iload_n 2, 1) := by decide +kernel
theorem dX6_sample_34 : decode cX6_sample 34 = .ok (.iand, 1) := by decide +kernel
theorem dX6_sample_35 : decode cX6_sample 35 = .ok (.putfield 21, 3) := by decide +kernel
theorem dX6_sample_38 : decode cX6_sample 38 = .ok (.return_, 1) := by decide +kernel
theorem dX6_twist_0 : decode cX6_twist 0 = .ok (.iload_n 0, 1) := by decide +kernel
theorem dX6_twist_1 : decode cX6_twist 1 = .ok (.iload_n 0, 1) := by decide +kernel
theorem dX6_twist_2 : decode cX6_twist 2 = .ok (.iconst 1, 1) := by decide +kernel
theorem dX6_twist_3 : decode cX6_twist 3 = .ok (.ishr, 1) := by decide +kernel
theorem dX6_twist_4 : decode cX6_twist 4 = .ok (.ixor, 1) := by decide +kernel
theorem dX6_twist_5 : decode cX6_twist 5 = .ok (.ireturn, 1) := by decide +kernel
theorem dX6_untwist_0 : decode cX6_untwist 0 = .ok (.iload_n 0, 1) := by decide +kernel
theorem dX6_untwist_1 : decode cX6_untwist 1 = .ok (.iload_n 0, 1) := by decide +kernel
theorem dX6_untwist_2 : decode cX6_untwist 2 = .ok (.iconst 1, 1) := by decide +kernel
theorem dX6_untwist_3 : decode cX6_untwist 3 = .ok (.ishr, 1) := by decide +kernel
theorem dX6_untwist_4 : decode cX6_untwist 4 = .ok (.ixor, 1) := by decide +kernel
theorem dX6_untwist_5 : decode cX6_untwist 5 = .ok (.istore_n 1, 1) := by decide +kernel
theorem dX6_untwist_6 : decode cX6_untwist 6 = .ok (.iload_n 1, 1) := by decide +kernel
theorem dX6_untwist_7 : decode cX6_untwist 7 = .ok (.iload_n 1, 1) := by decide +kernel
theorem dX6_untwist_8 : decode cX6_untwist 8 = .ok (.iconst 2, 1) := by decide +kernel
theorem dX6_untwist_9 : decode cX6_untwist 9 = .ok (.ishr, 1) := by decide +kernel
theorem dX6_untwist_10 : decode cX6_untwist 10 = .ok (.ixor, 1) := by decide +kernel
theorem dX6_untwist_11 : decode cX6_untwist 11 = .ok (.istore_n 1, 1) := by decide +kernel
theorem dX6_untwist_12 : decode cX6_untwist 12 = .ok (.iload_n 1, 1) := by decide +kernel
theorem dX6_untwist_13 : decode cX6_untwist 13 = .ok (.iload_n 1, 1) := by decide +kernel
theorem dX6_untwist_14 : decode cX6_untwist 14 = .ok (.iconst 4, 1) := by decide +kernel
theorem dX6_untwist_15 : decode cX6_untwist 15 = .ok (.ishr, 1) := by decide +kernel
theorem dX6_untwist_16 : decode cX6_untwist 16 = .ok (.ixor, 1) := by decide +kernel
theorem dX6_untwist_17 : decode cX6_untwist 17 = .ok (.istore_n 1, 1) := by decide +kernel
theorem dX6_untwist_18 : decode cX6_untwist 18 = .ok (.iload_n 1, 1) := by decide +kernel
theorem dX6_untwist_19 : decode cX6_untwist 19 = .ok (.iload_n 1, 1) := by decide +kernel
theorem dX6_untwist_20 : decode cX6_untwist 20 = .ok (.bipush 8, 2) := by decide +kernel
theorem dX6_untwist_22 : decode cX6_untwist 22 = .ok (.ishr, 1) := by decide +kernel
theorem dX6_untwist_23 : decode cX6_untwist 23 = .ok (.ixor, 1) := by decide +kernel
theorem dX6_untwist_24 : decode cX6_untwist 24 = .ok (.istore_n 1, 1) := by decide +kernel
theorem dX6_untwist_25 : decode cX6_untwist 25 = .ok (.iload_n 1, 1) := by decide +kernel
theorem dX6_untwist_26 : decode cX6_untwist 26 = .ok (.ireturn, 1) := by decide +kernel
theorem dX6_tell_0 : decode cX6_tell 0 = .ok (.iload_n 1, 1) := by decide +kernel
theorem dX6_tell_1 : decode cX6_tell 1 = .ok (.tableswitch 60 0 4 #[35, 40, 45, 50, 55], 35) := by decide +kernel
theorem dX6_tell_36 : decode cX6_tell 36 = .ok (.aload_n 0, 1) := by decide +kernel
theorem dX6_tell_37 : decode cX6_tell 37 = .ok (.getfield 21, 3) := by decide +kernel
theorem dX6_tell_40 : decode cX6_tell 40 = .ok (.ireturn, 1) := by decide +kernel
theorem dX6_tell_41 : decode cX6_tell 41 = .ok (.aload_n 0, 1) := by decide +kernel
theorem dX6_tell_42 : decode cX6_tell 42 = .ok (.getfield 24, 3) := by decide +kernel
theorem dX6_tell_45 : decode cX6_tell 45 = .ok (.ireturn, 1) := by decide +kernel
theorem dX6_tell_46 : decode cX6_tell 46 = .ok (.aload_n 0, 1) := by decide +kernel
theorem dX6_tell_47 : decode cX6_tell 47 = .ok (.getfield 9, 3) := by decide +kernel
theorem dX6_tell_50 : decode cX6_tell 50 = .ok (.ireturn, 1) := by decide +kernel
theorem dX6_tell_51 : decode cX6_tell 51 = .ok (.aload_n 0, 1) := by decide +kernel
theorem dX6_tell_52 : decode cX6_tell 52 = .ok (.getfield 18, 3) := by decide +kernel
theorem dX6_tell_55 : decode cX6_tell 55 = .ok (.ireturn, 1) := by decide +kernel
theorem dX6_tell_56 : decode cX6_tell 56 = .ok (.aload_n 0, 1) := by decide +kernel
theorem dX6_tell_57 : decode cX6_tell 57 = .ok (.getfield 15, 3) := by decide +kernel
theorem dX6_tell_60 : decode cX6_tell 60 = .ok (.ireturn, 1) := by decide +kernel
theorem dX6_tell_61 : decode cX6_tell 61 = .ok (.bipush (-2), 2) := by decide +kernel
theorem dX6_tell_63 : decode cX6_tell 63 = .ok (.ireturn, 1) := by decide +kernel
set_option maxRecDepth 20000 in
theorem ggX7_init_X5_init : GoodIn wsX7_init wsX5_init := goodIn_r _ [33, 34, 2, 3, 35, 36, 37, 38, 39, 79, 80, 81, 82, 83, 84] (by decide +kernel) (by decide +kernel)
set_option maxRecDepth 20000 in
theorem gX7_init_X5_init_n41 : GoodIn wsX7_init (wsX5_init) := ggX7_init_X5_init
set_option maxRecDepth 20000 in
theorem ggX7_init_X6_init : GoodIn wsX7_init wsX6_init := goodIn_r _ [41, 42, 2, 3, 43, 44, 85, 86, 87, 88, 89] (by decide +kernel) (by decide +kernel)
set_option maxRecDepth 20000 in
theorem gX7_init_X6_init_n48 : GoodIn wsX7_init (wsX6_init) := ggX7_init_X6_init
set_option maxRecDepth 20000 in
theorem ggX7_init_X2_init : GoodIn wsX7_init wsX2_init := goodIn_r _ [46, 47, 2, 3, 48, 49, 50, 51, 52, 53, 90, 91, 92, 93, 94, 95, 96, 97, 98, 99, 100] (by decide +kernel) (by decide +kernel)
set_option maxRecDepth 20000 in
theorem gX7_init_X2_init_n53 : GoodIn wsX7_init (wsX2_init) := ggX7_init_X2_init
set_option maxRecDepth 20000 in
theorem ggX7_init_X3_init : GoodIn wsX7_init wsX3_init := goodIn_r _ [55, 56, 2, 3, 57, 101, 102, 103, 104, 105] (by decide +kernel) (by decide +kernel)
set_option maxRecDepth 20000 in
theorem gX7_init_X3_init_n54 : GoodIn wsX7_init (wsX3_init) := ggX7_init_X3_init
set_option maxRecDepth 20000 in
theorem ggX7_init_X0_init : GoodIn wsX7_init wsX0_init := goodIn_r _ [59, 60, 2, 3, 61, 106, 107, 108, 109, 110, 111, 112] (by decide +kernel) (by decide +kernel)
set_option maxRecDepth 20000 in
theorem gX7_init_X0_init_n55 : GoodIn wsX7_init (wsX0_init) := ggX7_init_X0_init
set_option maxRecDepth 20000 in
theorem ggX7_init_X1_init : GoodIn wsX7_init wsX1_init := goodIn_r _ [63, 64, 2, 3, 65, 113, 114, 115, 116, 117, 118, 119, 120] (by decide +kernel) (by decide +kernel)
set_option maxRecDepth 20000 in
theorem gX7_init_X1_init_n56 : GoodIn wsX7_init (wsX1_init) := ggX7_init_X1_init
set_option maxRecDepth 20000 in
theorem ggX7_init_X4_init : GoodIn wsX7_init wsX4_init := goodIn_r _ [67, 68, 2, 3, 69, 121, 122] (by decide +kernel) (by decide +kernel)
set_option maxRecDepth 20000 in
theorem gX7_init_X4_init_n57 : GoodIn wsX7_init (wsX4_init) := ggX7_init_X4_init
theorem dX7_init_0 : decode cX7_init 0 = .ok (.aload_n 0, 1) := by decide +kernel
theorem dX7_init_1 : decode cX7_init 1 = .ok (.invokespecial 3, 3) := by decide +kernel
theorem dX7_init_4 : decode cX7_init 4 = .ok (.aload_n 0, 1) := by decide +kernel
theorem dX7_init_5 : decode cX7_init 5 = .ok (.iconst 4, 1) := by decide +kernel
theorem dX7_init_6 : decode cX7_init 6 = .ok (.anewarray 9, 3) := by decide +kernel
theorem dX7_init_9 : decode cX7_init 9 = .ok (.putfield 11, 3) := by decide +kernel
theorem dX7_init_12 : decode cX7_init 12 = .ok (.aload_n 0, 1) := by decide +kernel
theorem dX7_init_13 : decode cX7_init 13 = .ok (.iconst 4, 1) := by decide +kernel
theorem dX7_init_14 : decode cX7_init 14 = .ok (.anewarray 15, 3) := by decide +kernel
theorem dX7_init_17 : decode cX7_init 17 = .ok (.putfield 17, 3) := by decide +kernel
theorem dX7_init_20 : decode cX7_init 20 = .ok (.aload_n 0, 1) := by decide +kernel
theorem dX7_init_21 : decode cX7_init 21 = .ok (.iconst 4, 1) := by decide +kernel
theorem dX7_init_22 : decode cX7_init 22 = .ok (.anewarray 21, 3) := by decide +kernel
theorem dX7_init_25 : decode cX7_init 25 = .ok (.putfield 23, 3) := by decide +kernel
theorem dX7_init_28 : decode cX7_init 28 = .ok (.aload_n 0, 1) := by decide +kernel
theorem dX7_init_29 : decode cX7_init 29 = .ok (.iconst 4, 1) := by decide +kernel
theorem dX7_init_30 : decode cX7_init 30 = .ok (.anewarray 27, 3) := by decide +kernel
theorem dX7_init_33 : decode cX7_init 33 = .ok (.putfield 29, 3) := by decide +kernel
theorem dX7_init_36 : decode cX7_init 36 = .ok (.aload_n 0, 1) := by decide +kernel
theorem dX7_init_37 : decode cX7_init 37 = .ok (.iconst 2, 1) := by decide +kernel
theorem dX7_init_38 : decode cX7_init 38 = .ok (.anewarray 33, 3) := by decide +kernel
theorem dX7_init_41 : decode cX7_init 41 = .ok (.putfield 35, 3) := by decide +kernel
theorem dX7_init_44 : decode cX7_init 44 = .ok (.aload_n 0, 1) := by decide +kernel
theorem dX7_init_45 : decode cX7_init 45 = .ok (.new 39, 3) := by decide +kernel
theorem dX7_init_48 : decode cX7_init 48 = .ok (.dup, 1) := by decide +kernel
theorem dX7_init_49 : decode cX7_init 49 = .ok (.invokespecial 41, 3) := by decide +kernel
theorem dX7_init_52 : decode cX7_init 52 = .ok (.putfield 42, 3) := by decide +kernel
theorem dX7_init_55 : decode cX7_init 55 = .ok (.aload_n 0, 1) := by decide +kernel
theorem dX7_init_56 : decode cX7_init 56 = .ok (.new 46, 3) := by decide +kernel
theorem dX7_init_59 : decode cX7_init 59 = .ok (.dup, 1) := by decide +kernel
theorem dX7_init_60 : decode cX7_init 60 = .ok (.invokespecial 48, 3) := by decide +kernel
theorem dX7_init_63 : decode cX7_init 63 = .ok (.putfield 49, 3) := by decide +kernel
theorem dX7_init_66 : decode cX7_init 66 = .ok (.iconst 0, 1) := by decide +kernel
theorem dX7_init_67 : decode cX7_init 67 = .ok (.istore_n 1, 1) := by decide +kernel
theorem dX7_init_68 : decode cX7_init 68 = .ok (.iload_n 1, 1) := by decide +kernel
theorem dX7_init_69 : decode cX7_init 69 = .ok (.iconst 4, 1) := by decide +kernel
theorem dX7_init_70 : decode cX7_init 70 = .ok (.if_icmp .ge 61, 3) := by decide +kernel
theorem dX7_init_73 : decode cX7_init 73 = .ok (.aload_n 0, 1) := by decide +kernel
theorem dX7_init_74 : decode cX7_init 74 = .ok (.getfield 11, 3) := by decide +kernel
theorem dX7_init_77 : decode cX7_init 77 = .ok (.iload_n 1, 1) := by decide +kernel
theorem dX7_init_78 : decode cX7_init 78 = .ok (.new 9, 3) := by decide +kernel
theorem dX7_init_81 : decode cX7_init 81 = .ok (.dup, 1) := by decide +kernel
theorem dX7_init_82 : decode cX7_init 82 = .ok (.invokespecial 53, 3) := by decide +kernel
theorem dX7_init_85 : decode cX7_init 85 = .ok (.aastore, 1) := by decide +kernel
theorem dX7_init_86 : decode cX7_init 86 = .ok (.aload_n 0, 1) := by decide +kernel
theorem dX7_init_87 : decode cX7_init 87 = .ok (.getfield 17, 3) := by decide +kernel
theorem dX7_init_90 : decode cX7_init 90 = .ok (.iload_n 1, 1) := by decide +kernel
theorem dX7_init_91 : decode cX7_init 91 = .ok (.new 15, 3) := by decide +kernel
theorem dX7_init_94 : decode cX7_init 94 = .ok (.dup, 1) := by decide +kernel
theorem dX7_init_95 : decode cX7_init 95 = .ok (.invokespecial 54, 3) := by decide +kernel
theorem dX7_init_98 : decode cX7_init 98 = .ok (.aastore, 1) := by decide +kernel
theorem dX7_init_99 : decode cX7_init 99 = .ok (.aload_n 0, 1) := by decide +kernel
theorem dX7_init_100 : decode cX7_init 100 = .ok (.getfield 23, 3) := by decide +kernel
theorem dX7_init_103 : decode cX7_init 103 = .ok (.iload_n 1, 1) := by decide +kernel
theorem dX7_init_104 : decode cX7_init 104 = .ok (.new 21, 3) := by decide +kernel
theorem dX7_init_107 : decode cX7_init 107 = .ok (.dup, 1) := by decide +kernel
theorem dX7_init_108 : decode cX7_init 108 = .ok (.invokespecial 55, 3) := by decide +kernel
theorem dX7_init_111 : decode cX7_init 111 = .ok (.aastore, 1) := by decide +kernel
theorem dX7_init_112 : decode cX7_init 112 = .ok (.aload_n 0, 1) := by decide +kernel
theorem dX7_init_113 : decode cX7_init 113 = .ok (.getfield 29, 3) := by decide +kernel
theorem dX7_init_116 : decode cX7_init 116 = .ok (.iload_n 1, 1) := by decide +kernel
theorem dX7_init_117 : decode cX7_init 117 = .ok (.new 27, 3) := by decide +kernel
theorem dX7_init_120 : decode cX7_init 120 = .ok (.dup, 1) := by decide +kernel
theorem dX7_init_121 : decode cX7_init 121 = .ok (.invokespecial 56, 3) := by decide +kernel
theorem dX7_init_124 : decode cX7_init 124 = .ok (.aastore, 1) := by decide +kernel
theorem dX7_init_125 : decode cX7_init 125 = .ok (.iinc 1 1, 3) := by decide +kernel
theorem dX7_init_128 : decode cX7_init 128 = .ok (.goto (-60), 3) := by decide +kernel
theorem dX7_init_131 : decode cX7_init 131 = .ok (.iconst 0, 1) := by decide +kernel
theorem dX7_init_132 : decode cX7_init 132 = .ok (.istore_n 1, 1) := by decide +kernel
theorem dX7_init_133 : decode cX7_init 133 = .ok (.iload_n 1, 1) := by decide +kernel
theorem dX7_init_134 : decode cX7_init 134 = .ok (.iconst 2, 1) := by decide +kernel
theorem dX7_init_135 : decode cX7_init 135 = .ok (.if_icmp .ge 22, 3) := by decide +kernel
theorem dX7_init_138 : decode cX7_init 138 = .ok (.aload_n 0, 1) := by decide +kernel
theorem dX7_init_139 : decode cX7_init 139 = .ok (.getfield 35, 3) := by decide +kernel
theorem dX7_init_142 : decode cX7_init 142 = .ok (.iload_n 1, 1) := by decide +kernel
theorem dX7_init_143 : decode cX7_init 143 = .ok (.new 33, 3) := by decide +kernel
theorem dX7_init_146 : decode cX7_init 146 = .ok (.dup, 1) := by decide +kernel
theorem dX7_init_147 : decode cX7_init 147 = .ok (.invokespecial 57, 3) := by decide +kernel
theorem dX7_init_150 : decode cX7_init 150 = .ok (.aastore, 1) := by decide +kernel
theorem dX7_init_151 : decode cX7_init 151 = .ok (.iinc 1 1, 3) := by decide +kernel
theorem dX7_init_154 : decode cX7_init 154 = .ok (.goto (-21), 3) := by decide +kernel
theorem dX7_init_157 : decode cX7_init 157 = .ok (.return_, 1) := by decide +kernel
set_option maxRecDepth 20000 in
theorem ggX7_counter_X7_isOneOf : GoodIn wsX7_counter wsX7_isOneOf := goodIn_r _ [5] (by decide +kernel) (by decide +kernel)
set_option maxRecDepth 20000 in
theorem gX7_counter_X7_isOneOf : GoodIn wsX7_counter (va_wsS RX7 58 yX7_isOneOf wsX7_isOneOf) := goodIn_app (goodIn_of _ (by decide +kernel)) ggX7_counter_X7_isOneOf
set_option maxRecDepth 20000 in
theorem ggX7_counter_X7_within : GoodIn wsX7_counter wsX7_within := goodIn_r _ [8] (by decide +kernel) (by decide +kernel)
set_option maxRecDepth 20000 in
theorem gX7_counter_X7_within : GoodIn wsX7_counter (va_wsS RX7 62 yX7_within wsX7_within) := goodIn_app (goodIn_of _ (by decide +kernel)) ggX7_counter_X7_within
set_option maxRecDepth 20000 in
theorem ggX7_counter_X2_setUp : GoodIn wsX7_counter wsX2_setUp := goodIn_r _ [13, 14, 15, 16, 17, 18, 19, 20, 21, 31, 32, 33, 34, 35, 36, 37, 38, 39, 40, 41] (by decide +kernel) (by decide +kernel)
set_option maxRecDepth 20000 in
theorem gX7_counter_X2_setUp : GoodIn wsX7_counter (wsV RX7 66 RX2 yX2_setUp wsX2_setUp) := goodIn_app (goodIn_of _ (by decide +kernel)) ggX7_counter_X2_setUp
theorem dX7_counter_0 : decode cX7_counter 0 = .ok (.iconst 4, 1) := by decide +kernel
theorem dX7_counter_1 : decode cX7_counter 1 = .ok (.iload_n 1, 1) := by decide +kernel
theorem dX7_counter_2 : decode cX7_counter 2 = .ok (.invokestatic 58, 3) := by decide +kernel
theorem dX7_counter_5 : decode cX7_counter 5 = .ok (.ifCond .ne 5, 3) := by decide +kernel
theorem dX7_counter_8 : decode cX7_counter 8 = .ok (.iconst (-1), 1) := by decide +kernel
theorem dX7_counter_9 : decode cX7_counter 9 = .ok (.ireturn, 1) := by decide +kernel
theorem dX7_counter_10 : decode cX7_counter 10 = .ok (.iload_n 2, 1) := by decide +kernel
theorem dX7_counter_11 : decode cX7_counter 11 = .ok (.iconst 0, 1) := by decide +kernel
theorem dX7_counter_12 : decode cX7_counter 12 = .ok (.iconst 2, 1) := by decide +kernel
theorem dX7_counter_13 : decode cX7_counter 13 = .ok (.invokestatic 62, 3) := by decide +kernel
theorem dX7_counter_16 : decode cX7_counter 16 = .ok (.ifCond .eq 25, 3) := by decide +kernel
theorem dX7_counter_19 : decode cX7_counter 19 = .ok (.iload_n 3, 1) := by decide +kernel
theorem dX7_counter_20 : decode cX7_counter 20 = .ok (.iconst 1, 1) := by decide +kernel
theorem dX7_counter_21 : decode cX7_counter 21 = .ok (.sipush 9999, 3) := by decide +kernel
theorem dX7_counter_24 : decode cX7_counter 24 = .ok (.invokestatic 62, 3) := by decide +kernel
theorem dX7_counter_27 : decode cX7_counter 27 = .ok (.ifCond .eq 14, 3) := by decide +kernel
theorem dX7_counter_30 : decode cX7_counter 30 = .ok (.iload 4, 2) := by decide +kernel
theorem dX7_counter_32 : decode cX7_counter 32 = .ok (.iconst 1, 1) := by decide +kernel
theorem dX7_counter_33 : decode cX7_counter 33 = .ok (.bipush 64, 2) := by decide +kernel
theorem dX7_counter_35 : decode cX7_counter 35 = .ok (.invokestatic 62, 3) := by decide +kernel
theorem dX7_counter_38 : decode cX7_counter 38 = .ok (.ifCond .ne 6, 3) := by decide +kernel
theorem dX7_counter_41 : decode cX7_counter 41 = .ok (.bipush (-2), 2) := by decide +kernel
theorem dX7_counter_43 : decode cX7_counter 43 = .ok (.ireturn, 1) := by decide +kernel
theorem dX7_counter_44 : decode cX7_counter 44 = .ok (.aload_n 0, 1) := by decide +kernel
theorem dX7_counter_45 : decode cX7_counter 45 = .ok (.getfield 11, 3) := by decide +kernel
theorem dX7_counter_48 : decode cX7_counter 48 = .ok (.iload_n 1, 1) := by decide +kernel
theorem dX7_counter_49 : decode cX7_counter 49 = .ok (.aaload, 1) := by decide +kernel
theorem dX7_counter_50 : decode cX7_counter 50 = .ok (.iload_n 2, 1) := by decide +kernel
theorem dX7_counter_51 : decode cX7_counter 51 = .ok (.iload_n 3, 1) := by decide +kernel
theorem dX7_counter_52 : decode cX7_counter 52 = .ok (.iload 4, 2) := by decide +kernel
theorem dX7_counter_54 : decode cX7_counter 54 = .ok (.invokevirtual 66, 3) := by decide +kernel
theorem dX7_counter_57 : decode cX7_counter 57 = .ok (.iconst 1, 1) := by decide +kernel
theorem dX7_counter_58 : decode cX7_counter 58 = .ok (.ireturn, 1) := by decide +kernel
set_option maxRecDepth 20000 in
theorem ggX7_source_X7_isOneOf : GoodIn wsX7_source wsX7_isOneOf := goodIn_r _ [6] (by decide +kernel) (by decide +kernel)
set_option maxRecDepth 20000 in
theorem gX7_source_X7_isOneOf : GoodIn wsX7_source (va_wsS RX7 58 yX7_isOneOf wsX7_isOneOf) := goodIn_app (goodIn_of _ (by decide +kernel)) ggX7_source_X7_isOneOf
set_option maxRecDepth 20000 in
theorem ggX7_source_X7_within : GoodIn wsX7_source wsX7_within := goodIn_r _ [9] (by decide +kernel) (by decide +kernel)
set_option maxRecDepth 20000 in
theorem gX7_source_X7_within : GoodIn wsX7_source (va_wsS RX7 62 yX7_within wsX7_within) := goodIn_app (goodIn_of _ (by decide +kernel)) ggX7_source_X7_within
theorem dX7_source_0 : decode cX7_source 0 = .ok (.iconst 4, 1) := by decide +kernel
theorem dX7_source_1 : decode cX7_source 1 = .ok (.iload_n 1, 1) := by decide +kernel
theorem dX7_source_2 : decode cX7_source 2 = .ok (.invokestatic 58, 3) := by decide +kernel
theorem dX7_source_5 : decode cX7_source 5 = .ok (.ifCond .ne 5, 3) := by decide +kernel
theorem dX7_source_8 : decode cX7_source 8 = .ok (.iconst (-1), 1) := by decide +kernel
theorem dX7_source_9 : decode cX7_source 9 = .ok (.ireturn, 1) := by decide +kernel
theorem dX7_source_10 : decode cX7_source 10 = .ok (.iload_n 2, 1) := by decide +kernel
theorem dX7_source_11 : decode cX7_source 11 = .ok (.iconst 0, 1) := by decide +kernel
theorem dX7_source_12 : decode cX7_source 12 = .ok (.iconst 3, 1) := by decide +kernel
theorem dX7_source_13 : decode cX7_source 13 = .ok (.invokestatic 62, 3) := by decide +kernel
theorem dX7_source_16 : decode cX7_source 16 = .ok (.ifCond .ne 6, 3) := by decide +kernel
theorem dX7_source_19 : decode cX7_source 19 = .ok (.bipush (-2), 2) := by decide +kernel
theorem dX7_source_21 : decode cX7_source 21 = .ok (.ireturn, 1) := by decide +kernel
theorem dX7_source_22 : decode cX7_source 22 = .ok (.iload_n 2, 1) := by decide +kernel
theorem dX7_source_23 : decode cX7_source 23 = .ok (.iconst 2, 1) := by decide +kernel
theorem dX7_source_24 : decode cX7_source 24 = .ok (.if_icmp .ne 10, 3) := by decide +kernel
theorem dX7_source_27 : decode cX7_source 27 = .ok (.iload_n 1, 1) := by decide +kernel
theorem dX7_source_28 : decode cX7_source 28 = .ok (.ifCond .ne 6, 3) := by decide +kernel
theorem dX7_source_31 : decode cX7_source 31 = .ok (.bipush (-3), 2) := by decide +kernel
theorem dX7_source_33 : decode cX7_source 33 = .ok (.ireturn, 1) := by decide +kernel
theorem dX7_source_34 : decode cX7_source 34 = .ok (.aload_n 0, 1) := by decide +kernel
theorem dX7_source_35 : decode cX7_source 35 = .ok (.getfield 11, 3) := by decide +kernel
theorem dX7_source_38 : decode cX7_source 38 = .ok (.iload_n 1, 1) := by decide +kernel
theorem dX7_source_39 : decode cX7_source 39 = .ok (.aaload, 1) := by decide +kernel
theorem dX7_source_40 : decode cX7_source 40 = .ok (.getfield 70, 3) := by decide +kernel
theorem dX7_source_43 : decode cX7_source 43 = .ok (.istore_n 3, 1) := by decide +kernel
theorem dX7_source_44 : decode cX7_source 44 = .ok (.aload_n 0, 1) := by decide +kernel
theorem dX7_source_45 : decode cX7_source 45 = .ok (.getfield 11, 3) := by decide +kernel
theorem dX7_source_48 : decode cX7_source 48 = .ok (.iload_n 1, 1) := by decide +kernel
theorem dX7_source_49 : decode cX7_source 49 = .ok (.aaload, 1) := by decide +kernel
theorem dX7_source_50 : decode cX7_source 50 = .ok (.iload_n 2, 1) := by decide +kernel
theorem dX7_source_51 : decode cX7_source 51 = .ok (.putfield 70, 3) := by decide +kernel
theorem dX7_source_54 : decode cX7_source 54 = .ok (.iload_n 3, 1) := by decide +kernel
theorem dX7_source_55 : decode cX7_source 55 = .ok (.ireturn, 1) := by decide +kernel
set_option maxRecDepth 20000 in
theorem ggX7_count_X7_isOneOf : GoodIn wsX7_count wsX7_isOneOf := goodIn_r _ [7] (by decide +kernel) (by decide +kernel)
set_option maxRecDepth 20000 in
theorem gX7_count_X7_isOneOf : GoodIn wsX7_count (va_wsS RX7 58 yX7_isOneOf wsX7_isOneOf) := goodIn_app (goodIn_of _ (by decide +kernel)) ggX7_count_X7_isOneOf
set_option maxRecDepth 20000 in
theorem ggX7_count_X7_within : GoodIn wsX7_count wsX7_within := goodIn_r _ [10] (by decide +kernel) (by decide +kernel)
set_option maxRecDepth 20000 in
theorem gX7_count_X7_within : GoodIn wsX7_count (va_wsS RX7 62 yX7_within wsX7_within) := goodIn_app (goodIn_of _ (by decide +kernel)) ggX7_count_X7_within
theorem dX7_count_0 : decode cX7_count 0 = .ok (.iconst 4, 1) := by decide +kernel
theorem dX7_count_1 : decode cX7_count 1 = .ok (.iload_n 1, 1) := by decide +kernel
theorem dX7_count_2 : decode cX7_count 2 = .ok (.invokestatic 58, 3) := by decide +kernel
theorem dX7_count_5 : decode cX7_count 5 = .ok (.ifCond .ne 5, 3) := by decide +kernel
theorem dX7_count_8 : decode cX7_count 8 = .ok (.iconst (-1), 1) := by decide +kernel
theorem dX7_count_9 : decode cX7_count 9 = .ok (.ireturn, 1) := by decide +kernel
theorem dX7_count_10 : decode cX7_count 10 = .ok (.iload_n 2, 1) := by decide +kernel
theorem dX7_count_11 : decode cX7_count 11 = .ok (.iconst 0, 1) := by decide +kernel
theorem dX7_count_12 : decode cX7_count 12 = .ok (.aload_n 0, 1) := by decide +kernel
theorem dX7_count_13 : decode cX7_count 13 = .ok (.getfield 11, 3) := by decide +kernel
theorem dX7_count_16 : decode cX7_count 16 = .ok (.iload_n 1, 1) := by decide +kernel
theorem dX7_count_17 : decode cX7_count 17 = .ok (.aaload, 1) := by decide +kernel
theorem dX7_count_18 : decode cX7_count 18 = .ok (.getfield 74, 3) := by decide +kernel
theorem dX7_count_21 : decode cX7_count 21 = .ok (.invokestatic 62, 3) := by decide +kernel
theorem dX7_count_24 : decode cX7_count 24 = .ok (.ifCond .ne 6, 3) := by decide +kernel
theorem dX7_count_27 : decode cX7_count 27 = .ok (.bipush (-2), 2) := by decide +kernel
theorem dX7_count_29 : decode cX7_count 29 = .ok (.ireturn, 1) := by decide +kernel
theorem dX7_count_30 : decode cX7_count 30 = .ok (.aload_n 0, 1) := by decide +kernel
theorem dX7_count_31 : decode cX7_count 31 = .ok (.getfield 11, 3) := by decide +kernel
theorem dX7_count_34 : decode cX7_count 34 = .ok (.iload_n 1, 1) := by decide +kernel
theorem dX7_count_35 : decode cX7_count 35 = .ok (.aaload, 1) := by decide +kernel
theorem dX7_count_36 : decode cX7_count 36 = .ok (.getfield 77, 3) := by decide +kernel
theorem dX7_count_39 : decode cX7_count 39 = .ok (.istore_n 3, 1) := by decide +kernel
theorem dX7_count_40 : decode cX7_count 40 = .ok (.aload_n 0, 1) := by decide +kernel
theorem dX7_count_41 : decode cX7_count 41 = .ok (.getfield 11, 3) := by decide +kernel
theorem dX7_count_44 : decode cX7_count 44 = .ok (.iload_n 1, 1) := by decide +kernel
theorem dX7_count_45 : decode cX7_count 45 = .ok (.aaload, 1) := by decide +kernel
theorem dX7_count_46 : decode cX7_count 46 = .ok (.iload_n 2, 1) := by decide +kernel
theorem dX7_count_47 : decode cX7_count 47 = .ok (.putfield 77, 3) := by decide +kernel
theorem dX7_count_50 : decode cX7_count 50 = .ok (.iload_n 3, 1) := by decide +kernel
theorem dX7_count_51 : decode cX7_count 51 = .ok (.ireturn, 1) := by decide +kernel
set_option maxRecDepth 20000 in
theorem ggX7_top_X7_isOneOf : GoodIn wsX7_top wsX7_isOneOf := goodIn_r _ [7] (by decide +kernel) (by decide +kernel)
set_option maxRecDepth 20000 in
theorem gX7_top_X7_isOneOf : GoodIn wsX7_top (va_wsS RX7 58 yX7_isOneOf wsX7_isOneOf) := goodIn_app (goodIn_of _ (by decide +kernel)) ggX7_top_X7_isOneOf
set_option maxRecDepth 20000 in
theorem ggX7_top_X7_within : GoodIn wsX7_top wsX7_within := goodIn_r _ [10] (by decide +kernel) (by decide +kernel)
set_option maxRecDepth 20000 in
theorem gX7_top_X7_within : GoodIn wsX7_top (va_wsS RX7 62 yX7_within wsX7_within) := goodIn_app (goodIn_of _ (by decide +kernel)) ggX7_top_X7_within
theorem dX7_top_0 : decode cX7_top 0 = .ok (.iconst 4, 1) := by decide +kernel
theorem dX7_top_1 : decode cX7_top 1 = .ok (.iload_n 1, 1) := by decide +kernel
theorem dX7_top_2 : decode cX7_top 2 = .ok (.invokestatic 58, 3) := by decide +kernel
theorem dX7_top_5 : decode cX7_top 5 = .ok (.ifCond .ne 5, 3) := by decide +kernel
theorem dX7_top_8 : decode cX7_top 8 = .ok (.iconst (-1), 1) := by decide +kernel
theorem dX7_top_9 : decode cX7_top 9 = .ok (.ireturn, 1) := by decide +kernel
theorem dX7_top_10 : decode cX7_top 10 = .ok (.iload_n 2, 1) := by decide +kernel
theorem dX7_top_11 : decode cX7_top 11 = .ok (.iconst 1, 1) := by decide +kernel
theorem dX7_top_12 : decode cX7_top 12 = .ok (.sipush 9999, 3) := by decide +kernel
theorem dX7_top_15 : decode cX7_top 15 = .ok (.invokestatic 62, 3) := by decide +kernel
theorem dX7_top_18 : decode cX7_top 18 = .ok (.ifCond .ne 6, 3) := by decide +kernel
theorem dX7_top_21 : decode cX7_top 21 = .ok (.bipush (-2), 2) := by decide +kernel
theorem dX7_top_23 : decode cX7_top 23 = .ok (.ireturn, 1) := by decide +kernel
theorem dX7_top_24 : decode cX7_top 24 = .ok (.aload_n 0, 1) := by decide +kernel
theorem dX7_top_25 : decode cX7_top 25 = .ok (.getfield 11, 3) := by decide +kernel
theorem dX7_top_28 : decode cX7_top 28 = .ok (.iload_n 1, 1) := by decide +kernel
theorem dX7_top_29 : decode cX7_top 29 = .ok (.aaload, 1) := by decide +kernel
theorem dX7_top_30 : decode cX7_top 30 = .ok (.iload_n 2, 1) := by decide +kernel
theorem dX7_top_31 : decode cX7_top 31 = .ok (.putfield 80, 3) := by decide +kernel
theorem dX7_top_34 : decode cX7_top 34 = .ok (.aload_n 0, 1) := by decide +kernel
theorem dX7_top_35 : decode cX7_top 35 = .ok (.getfield 11, 3) := by decide +kernel
theorem dX7_top_38 : decode cX7_top 38 = .ok (.iload_n 1, 1) := by decide +kernel
theorem dX7_top_39 : decode cX7_top 39 = .ok (.aaload, 1) := by decide +kernel
theorem dX7_top_40 : decode cX7_top 40 = .ok (.getfield 74, 3) := by decide +kernel
theorem dX7_top_43 : decode cX7_top 43 = .ok (.ireturn, 1) := by decide +kernel
set_option maxRecDepth 20000 in
theorem ggX7_ofCounter_X7_isOneOf : GoodIn wsX7_ofCounter wsX7_isOneOf := goodIn_r _ [5] (by decide +kernel) (by decide +kernel)
set_option maxRecDepth 20000 in
theorem gX7_ofCounter_X7_isOneOf : GoodIn wsX7_ofCounter (va_wsS RX7 58 yX7_isOneOf wsX7_isOneOf) := goodIn_app (goodIn_of _ (by decide +kernel)) ggX7_ofCounter_X7_isOneOf
set_option maxRecDepth 20000 in
theorem ggX7_ofCounter_X2_tell : GoodIn wsX7_ofCounter wsX2_tell := goodIn_r _ [10, 11, 12, 13, 14, 15, 16, 17, 18, 19, 29, 30, 31, 32, 33, 34, 35, 36, 37, 38, 39] (by decide +kernel) (by decide +kernel)
set_option maxRecDepth 20000 in
theorem gX7_ofCounter_X2_tell : GoodIn wsX7_ofCounter (wsV RX7 83 RX2 yX2_tell wsX2_tell) := goodIn_app (goodIn_of _ (by decide +kernel)) ggX7_ofCounter_X2_tell
theorem dX7_ofCounter_0 : decode cX7_ofCounter 0 = .ok (.iconst 4, 1) := by decide +kernel
theorem dX7_ofCounter_1 : decode cX7_ofCounter 1 = .ok (.iload_n 1, 1) := by decide +kernel
theorem dX7_ofCounter_2 : decode cX7_ofCounter 2 = .ok (.invokestatic 58, 3) := by decide +kernel
theorem dX7_ofCounter_5 : decode cX7_ofCounter 5 = .ok (.ifCond .eq 16, 3) := by decide +kernel
theorem dX7_ofCounter_8 : decode cX7_ofCounter 8 = .ok (.aload_n 0, 1) := by decide +kernel
theorem dX7_ofCounter_9 : decode cX7_ofCounter 9 = .ok (.getfield 11, 3) := by decide +kernel
theorem dX7_ofCounter_12 : decode cX7_ofCounter 12 = .ok (.iload_n 1, 1) := by decide +kernel
theorem dX7_ofCounter_13 : decode cX7_ofCounter 13 = .ok (.aaload, 1) := by decide +kernel
theorem dX7_ofCounter_14 : decode cX7_ofCounter 14 = .ok (.iload_n 2, 1) := by decide +kernel
theorem dX7_ofCounter_15 : decode cX7_ofCounter 15 = .ok (.invokevirtual 83, 3) := by decide +kernel
theorem dX7_ofCounter_18 : decode cX7_ofCounter 18 = .ok (.goto 4, 3) := by decide +kernel
theorem dX7_ofCounter_21 : decode cX7_ofCounter 21 = .ok (.iconst (-1), 1) := by decide +kernel
theorem dX7_ofCounter_22 : decode cX7_ofCounter 22 = .ok (.ireturn, 1) := by decide +kernel
set_option maxRecDepth 20000 in
theorem ggX7_input_X7_isOneOf : GoodIn wsX7_input wsX7_isOneOf := goodIn_r _ [6] (by decide +kernel) (by decide +kernel)
set_option maxRecDepth 20000 in
theorem gX7_input_X7_isOneOf : GoodIn wsX7_input (va_wsS RX7 58 yX7_isOneOf wsX7_isOneOf) := goodIn_app (goodIn_of _ (by decide +kernel)) ggX7_input_X7_isOneOf
set_option maxRecDepth 20000 in
theorem ggX7_input_X7_within : GoodIn wsX7_input wsX7_within := goodIn_r _ [9] (by decide +kernel) (by decide +kernel)
set_option maxRecDepth 20000 in
theorem gX7_input_X7_within : GoodIn wsX7_input (va_wsS RX7 62 yX7_within wsX7_within) := goodIn_app (goodIn_of _ (by decide +kernel)) ggX7_input_X7_within
theorem dX7_input_0 : decode cX7_input 0 = .ok (.iconst 4, 1) := by decide +kernel
theorem dX7_input_1 : decode cX7_input 1 = .ok (.iload_n 1, 1) := by decide +kernel
theorem dX7_input_2 : decode cX7_input 2 = .ok (.invokestatic 58, 3) := by decide +kernel
theorem dX7_input_5 : decode cX7_input 5 = .ok (.ifCond .ne 5, 3) := by decide +kernel
theorem dX7_input_8 : decode cX7_input 8 = .ok (.iconst (-1), 1) := by decide +kernel
theorem dX7_input_9 : decode cX7_input 9 = .ok (.ireturn, 1) := by decide +kernel
theorem dX7_input_10 : decode cX7_input 10 = .ok (.iload_n 2, 1) := by decide +kernel
theorem dX7_input_11 : decode cX7_input 11 = .ok (.iconst 0, 1) := by decide +kernel
theorem dX7_input_12 : decode cX7_input 12 = .ok (.iconst 1, 1) := by decide +kernel
theorem dX7_input_13 : decode cX7_input 13 = .ok (.invokestatic 62, 3) := by decide +kernel
theorem dX7_input_16 : decode cX7_input 16 = .ok (.ifCond .ne 6, 3) := by decide +kernel
theorem dX7_input_19 : decode cX7_input 19 = .ok (.bipush (-2), 2) := by decide +kernel
theorem dX7_input_21 : decode cX7_input 21 = .ok (.ireturn, 1) := by decide +kernel
theorem dX7_input_22 : decode cX7_input 22 = .ok (.aload_n 0, 1) := by decide +kernel
theorem dX7_input_23 : decode cX7_input 23 = .ok (.getfield 17, 3) := by decide +kernel
theorem dX7_input_26 : decode cX7_input 26 = .ok (.iload_n 1, 1) := by decide +kernel
theorem dX7_input_27 : decode cX7_input 27 = .ok (.aaload, 1) := by decide +kernel
theorem dX7_input_28 : decode cX7_input 28 = .ok (.getfield 87, 3) := by decide +kernel
theorem dX7_input_31 : decode cX7_input 31 = .ok (.istore_n 3, 1) := by decide +kernel
theorem dX7_input_32 : decode cX7_input 32 = .ok (.aload_n 0, 1) := by decide +kernel
theorem dX7_input_33 : decode cX7_input 33 = .ok (.getfield 17, 3) := by decide +kernel
theorem dX7_input_36 : decode cX7_input 36 = .ok (.iload_n 1, 1) := by decide +kernel
theorem dX7_input_37 : decode cX7_input 37 = .ok (.aaload, 1) := by decide +kernel
theorem dX7_input_38 : decode cX7_input 38 = .ok (.iload_n 2, 1) := by decide +kernel
theorem dX7_input_39 : decode cX7_input 39 = .ok (.putfield 87, 3) := by decide +kernel
theorem dX7_input_42 : decode cX7_input 42 = .ok (.iload_n 3, 1) := by decide +kernel
theorem dX7_input_43 : decode cX7_input 43 = .ok (.ireturn, 1) := by decide +kernel
set_option maxRecDepth 20000 in
theorem ggX7_filter_X7_isOneOf : GoodIn wsX7_filter wsX7_isOneOf := goodIn_r _ [6] (by decide +kernel) (by decide +kernel)
set_option maxRecDepth 20000 in
theorem gX7_filter_X7_isOneOf : GoodIn wsX7_filter (va_wsS RX7 58 yX7_isOneOf wsX7_isOneOf) := goodIn_app (goodIn_of _ (by decide +kernel)) ggX7_filter_X7_isOneOf
set_option maxRecDepth 20000 in
theorem ggX7_filter_X7_within : GoodIn wsX7_filter wsX7_within := goodIn_r _ [9] (by decide +kernel) (by decide +kernel)
set_option maxRecDepth 20000 in
theorem gX7_filter_X7_within : GoodIn wsX7_filter (va_wsS RX7 62 yX7_within wsX7_within) := goodIn_app (goodIn_of _ (by decide +kernel)) ggX7_filter_X7_within
theorem dX7_filter_0 : decode cX7_filter 0 = .ok (.iconst 4, 1) := by decide +kernel
theorem dX7_filter_1 : decode cX7_filter 1 = .ok (.iload_n 1, 1) := by decide +kernel
theorem dX7_filter_2 : decode cX7_filter 2 = .ok (.invokestatic 58, 3) := by decide +kernel
theorem dX7_filter_5 : decode cX7_filter 5 = .ok (.ifCond .ne 5, 3) := by decide +kernel
theorem dX7_filter_8 : decode cX7_filter 8 = .ok (.iconst (-1), 1) := by decide +kernel
theorem dX7_filter_9 : decode cX7_filter 9 = .ok (.ireturn, 1) := by decide +kernel
theorem dX7_filter_10 : decode cX7_filter 10 = .ok (.iload_n 2, 1) := by decide +kernel
theorem dX7_filter_11 : decode cX7_filter 11 = .ok (.iconst 1, 1) := by decide +kernel
theorem dX7_filter_12 : decode cX7_filter 12 = .ok (.bipush 8, 2) := by decide +kernel
theorem dX7_filter_14 : decode cX7_filter 14 = .ok (.invokestatic 62, 3) := by decide +kernel
theorem dX7_filter_17 : decode cX7_filter 17 = .ok (.ifCond .ne 6, 3) := by decide +kernel
theorem dX7_filter_20 : decode cX7_filter 20 = .ok (.bipush (-2), 2) := by decide +kernel
theorem dX7_filter_22 : decode cX7_filter 22 = .ok (.ireturn, 1) := by decide +kernel
theorem dX7_filter_23 : decode cX7_filter 23 = .ok (.aload_n 0, 1) := by decide +kernel
theorem dX7_filter_24 : decode cX7_filter 24 = .ok (.getfield 17, 3) := by decide +kernel
theorem dX7_filter_27 : decode cX7_filter 27 = .ok (.iload_n 1, 1) := by decide +kernel
theorem dX7_filter_28 : decode cX7_filter 28 = .ok (.aaload, 1) := by decide +kernel
theorem dX7_filter_29 : decode cX7_filter 29 = .ok (.getfield 90, 3) := by decide +kernel
theorem dX7_filter_32 : decode cX7_filter 32 = .ok (.istore_n 3, 1) := by decide +kernel
theorem dX7_filter_33 : decode cX7_filter 33 = .ok (.aload_n 0, 1) := by decide +kernel
theorem dX7_filter_34 : decode cX7_filter 34 = .ok (.getfield 17, 3) := by decide +kernel
theorem dX7_filter_37 : decode cX7_filter 37 = .ok (.iload_n 1, 1) := by decide +kernel
theorem dX7_filter_38 : decode cX7_filter 38 = .ok (.aaload, 1) := by decide +kernel
theorem dX7_filter_39 : decode cX7_filter 39 = .ok (.iload_n 2, 1) := by decide +kernel
theorem dX7_filter_40 : decode cX7_filter 40 = .ok (.putfield 90, 3) := by decide +kernel
theorem dX7_filter_43 : decode cX7_filter 43 = .ok (.iload_n 3, 1) := by decide +kernel
theorem dX7_filter_44 : decode cX7_filter 44 = .ok (.ireturn, 1) := by decide +kernel
set_option maxRecDepth 20000 in
theorem ggX7_ofInput_X7_isOneOf : GoodIn wsX7_ofInput wsX7_isOneOf := goodIn_r _ [5] (by decide +kernel) (by decide +kernel)
set_option maxRecDepth 20000 in
theorem gX7_ofInput_X7_isOneOf : GoodIn wsX7_ofInput (va_wsS RX7 58 yX7_isOneOf wsX7_isOneOf) := goodIn_app (goodIn_of _ (by decide +kernel)) ggX7_ofInput_X7_isOneOf
set_option maxRecDepth 20000 in
theorem ggX7_ofInput_X3_tell : GoodIn wsX7_ofInput wsX3_tell := goodIn_r _ [10, 11, 12, 13, 14, 24, 25, 26, 27, 28] (by decide +kernel) (by decide +kernel)
set_option maxRecDepth 20000 in
theorem gX7_ofInput_X3_tell : GoodIn wsX7_ofInput (wsV RX7 93 RX3 yX3_tell wsX3_tell) := goodIn_app (goodIn_of _ (by decide +kernel)) ggX7_ofInput_X3_tell
theorem dX7_ofInput_0 : decode cX7_ofInput 0 = .ok (.iconst 4, 1) := by decide +kernel
theorem dX7_ofInput_1 : decode cX7_ofInput 1 = .ok (.iload_n 1, 1) := by decide +kernel
theorem dX7_ofInput_2 : decode cX7_ofInput 2 = .ok (.invokestatic 58, 3) := by decide +kernel
theorem dX7_ofInput_5 : decode cX7_ofInput 5 = .ok (.ifCond .eq 16, 3) := by decide +kernel
theorem dX7_ofInput_8 : decode cX7_ofInput 8 = .ok (.aload_n 0, 1) := by decide +kernel
theorem dX7_ofInput_9 : decode cX7_ofInput 9 = .ok (.getfield 17, 3) := by decide +kernel
theorem dX7_ofInput_12 : decode cX7_ofInput 12 = .ok (.iload_n 1, 1) := by decide +kernel
theorem dX7_ofInput_13 : decode cX7_ofInput 13 = .ok (.aaload, 1) := by decide +kernel
theorem dX7_ofInput_14 : decode cX7_ofInput 14 = .ok (.iload_n 2, 1) := by decide +kernel
theorem dX7_ofInput_15 : decode cX7_ofInput 15 = .ok (.invokevirtual 93, 3) := by decide +kernel
theorem dX7_ofInput_18 : decode cX7_ofInput 18 = .ok (.goto 4, 3) := by decide +kernel
theorem dX7_ofInput_21 : decode cX7_ofInput 21 = .ok (.iconst (-1), 1) := by decide +kernel
theorem dX7_ofInput_22 : decode cX7_ofInput 22 = .ok (.ireturn, 1) := by decide +kernel
set_option maxRecDepth 20000 in
theorem ggX7_catcher_X7_isOneOf : GoodIn wsX7_catcher wsX7_isOneOf := goodIn_r _ [5] (by decide +kernel) (by decide +kernel)
set_option maxRecDepth 20000 in
theorem gX7_catcher_X7_isOneOf : GoodIn wsX7_catcher (va_wsS RX7 58 yX7_isOneOf wsX7_isOneOf) := goodIn_app (goodIn_of _ (by decide +kernel)) ggX7_catcher_X7_isOneOf
set_option maxRecDepth 20000 in
theorem ggX7_catcher_X7_within : GoodIn wsX7_catcher wsX7_within := goodIn_r _ [8] (by decide +kernel) (by decide +kernel)
set_option maxRecDepth 20000 in
theorem gX7_catcher_X7_within : GoodIn wsX7_catcher (va_wsS RX7 62 yX7_within wsX7_within) := goodIn_app (goodIn_of _ (by decide +kernel)) ggX7_catcher_X7_within
set_option maxRecDepth 20000 in
theorem ggX7_catcher_X0_setUp : GoodIn wsX7_catcher wsX0_setUp := goodIn_r _ [13, 14, 15, 16, 17, 18, 19, 20, 30, 31, 32, 33, 34, 35, 36] (by decide +kernel) (by decide +kernel)
set_option maxRecDepth 20000 in
theorem gX7_catcher_X0_setUp : GoodIn wsX7_catcher (wsV RX7 94 RX0 yX0_setUp wsX0_setUp) := goodIn_app (goodIn_of _ (by decide +kernel)) ggX7_catcher_X0_setUp
theorem dX7_catcher_0 : decode cX7_catcher 0 = .ok (.iconst 4, 1) := by decide +kernel
theorem dX7_catcher_1 : decode cX7_catcher 1 = .ok (.iload_n 1, 1) := by decide +kernel
theorem dX7_catcher_2 : decode cX7_catcher 2 = .ok (.invokestatic 58, 3) := by decide +kernel
theorem dX7_catcher_5 : decode cX7_catcher 5 = .ok (.ifCond .eq 11, 3) := by decide +kernel
theorem dX7_catcher_8 : decode cX7_catcher 8 = .ok (.iconst 4, 1) := by decide +kernel
theorem dX7_catcher_9 : decode cX7_catcher 9 = .ok (.iload_n 2, 1) := by decide +kernel
theorem dX7_catcher_10 : decode cX7_catcher 10 = .ok (.invokestatic 58, 3) := by decide +kernel
theorem dX7_catcher_13 : decode cX7_catcher 13 = .ok (.ifCond .ne 5, 3) := by decide +kernel
theorem dX7_catcher_16 : decode cX7_catcher 16 = .ok (.iconst (-1), 1) := by decide +kernel
theorem dX7_catcher_17 : decode cX7_catcher 17 = .ok (.ireturn, 1) := by decide +kernel
theorem dX7_catcher_18 : decode cX7_catcher 18 = .ok (.iload_n 3, 1) := by decide +kernel
theorem dX7_catcher_19 : decode cX7_catcher 19 = .ok (.iconst 0, 1) := by decide +kernel
theorem dX7_catcher_20 : decode cX7_catcher 20 = .ok (.iconst 3, 1) := by decide +kernel
theorem dX7_catcher_21 : decode cX7_catcher 21 = .ok (.invokestatic 62, 3) := by decide +kernel
theorem dX7_catcher_24 : decode cX7_catcher 24 = .ok (.ifCond .eq 13, 3) := by decide +kernel
theorem dX7_catcher_27 : decode cX7_catcher 27 = .ok (.iload 4, 2) := by decide +kernel
theorem dX7_catcher_29 : decode cX7_catcher 29 = .ok (.iconst 1, 1) := by decide +kernel
theorem dX7_catcher_30 : decode cX7_catcher 30 = .ok (.iconst 4, 1) := by decide +kernel
theorem dX7_catcher_31 : decode cX7_catcher 31 = .ok (.invokestatic 62, 3) := by decide +kernel
theorem dX7_catcher_34 : decode cX7_catcher 34 = .ok (.ifCond .ne 6, 3) := by decide +kernel
theorem dX7_catcher_37 : decode cX7_catcher 37 = .ok (.bipush (-2), 2) := by decide +kernel
theorem dX7_catcher_39 : decode cX7_catcher 39 = .ok (.ireturn, 1) := by decide +kernel
theorem dX7_catcher_40 : decode cX7_catcher 40 = .ok (.aload_n 0, 1) := by decide +kernel
theorem dX7_catcher_41 : decode cX7_catcher 41 = .ok (.getfield 23, 3) := by decide +kernel
theorem dX7_catcher_44 : decode cX7_catcher 44 = .ok (.iload_n 1, 1) := by decide +kernel
theorem dX7_catcher_45 : decode cX7_catcher 45 = .ok (.aaload, 1) := by decide +kernel
theorem dX7_catcher_46 : decode cX7_catcher 46 = .ok (.iload_n 2, 1) := by decide +kernel
theorem dX7_catcher_47 : decode cX7_catcher 47 = .ok (.iload_n 3, 1) := by decide +kernel
theorem dX7_catcher_48 : decode cX7_catcher 48 = .ok (.iload 4, 2) := by decide +kernel
theorem dX7_catcher_50 : decode cX7_catcher 50 = .ok (.invokevirtual 94, 3) := by decide +kernel
theorem dX7_catcher_53 : decode cX7_catcher 53 = .ok (.iconst 1, 1) := by decide +kernel
theorem dX7_catcher_54 : decode cX7_catcher 54 = .ok (.ireturn, 1) := by decide +kernel
set_option maxRecDepth 20000 in
theorem ggX7_taken_X7_isOneOf : GoodIn wsX7_taken wsX7_isOneOf := goodIn_r _ [5] (by decide +kernel) (by decide +kernel)
set_option maxRecDepth 20000 in
theorem gX7_taken_X7_isOneOf : GoodIn wsX7_taken (va_wsS RX7 58 yX7_isOneOf wsX7_isOneOf) := goodIn_app (goodIn_of _ (by decide +kernel)) ggX7_taken_X7_isOneOf
set_option maxRecDepth 20000 in
theorem ggX7_taken_X0_handOver : GoodIn wsX7_taken wsX0_handOver := goodIn_r _ [10, 11, 12, 22, 23, 24, 25, 26, 27, 28] (by decide +kernel) (by decide +kernel)
set_option maxRecDepth 20000 in
theorem gX7_taken_X0_handOver : GoodIn wsX7_taken (wsV RX7 95 RX0 yX0_handOver wsX0_handOver) := goodIn_app (goodIn_of _ (by decide +kernel)) ggX7_taken_X0_handOver
theorem dX7_taken_0 : decode cX7_taken 0 = .ok (.iconst 4, 1) := by decide +kernel
theorem dX7_taken_1 : decode cX7_taken 1 = .ok (.iload_n 1, 1) := by decide +kernel
theorem dX7_taken_2 : decode cX7_taken 2 = .ok (.invokestatic 58, 3) := by decide +kernel
theorem dX7_taken_5 : decode cX7_taken 5 = .ok (.ifCond .eq 15, 3) := by decide +kernel
theorem dX7_taken_8 : decode cX7_taken 8 = .ok (.aload_n 0, 1) := by decide +kernel
theorem dX7_taken_9 : decode cX7_taken 9 = .ok (.getfield 23, 3) := by decide +kernel
theorem dX7_taken_12 : decode cX7_taken 12 = .ok (.iload_n 1, 1) := by decide +kernel
theorem dX7_taken_13 : decode cX7_taken 13 = .ok (.aaload, 1) := by decide +kernel
theorem dX7_taken_14 : decode cX7_taken 14 = .ok (.invokevirtual 95, 3) := by decide +kernel
theorem dX7_taken_17 : decode cX7_taken 17 = .ok (.goto 4, 3) := by decide +kernel
theorem dX7_taken_20 : decode cX7_taken 20 = .ok (.iconst (-1), 1) := by decide +kernel
theorem dX7_taken_21 : decode cX7_taken 21 = .ok (.ireturn, 1) := by decide +kernel
set_option maxRecDepth 20000 in
theorem ggX7_ofCatcher_X7_isOneOf : GoodIn wsX7_ofCatcher wsX7_isOneOf := goodIn_r _ [5] (by decide +kernel) (by decide +kernel)
set_option maxRecDepth 20000 in
theorem gX7_ofCatcher_X7_isOneOf : GoodIn wsX7_ofCatcher (va_wsS RX7 58 yX7_isOneOf wsX7_isOneOf) := goodIn_app (goodIn_of _ (by decide +kernel)) ggX7_ofCatcher_X7_isOneOf
set_option maxRecDepth 20000 in
theorem ggX7_ofCatcher_X0_tell : GoodIn wsX7_ofCatcher wsX0_tell := goodIn_r _ [10, 11, 12, 13, 14, 15, 16, 17, 27, 28, 29, 30, 31, 32, 33] (by decide +kernel) (by decide +kernel)
set_option maxRecDepth 20000 in
theorem gX7_ofCatcher_X0_tell : GoodIn wsX7_ofCatcher (wsV RX7 99 RX0 yX0_tell wsX0_tell) := goodIn_app (goodIn_of _ (by decide +kernel)) ggX7_ofCatcher_X0_tell
theorem dX7_ofCatcher_0 : decode cX7_ofCatcher 0 = .ok (.iconst 4, 1) := by decide +kernel
theorem dX7_ofCatcher_1 : decode cX7_ofCatcher 1 = .ok (.iload_n 1, 1) := by decide +kernel
theorem dX7_ofCatcher_2 : decode cX7_ofCatcher 2 = .ok (.invokestatic 58, 3) := by decide +kernel
theorem dX7_ofCatcher_5 : decode cX7_ofCatcher 5 = .ok (.ifCond .eq 16, 3) := by decide +kernel
theorem dX7_ofCatcher_8 : decode cX7_ofCatcher 8 = .ok (.aload_n 0, 1) := by decide +kernel
theorem dX7_ofCatcher_9 : decode cX7_ofCatcher 9 = .ok (.getfield 23, 3) := by decide +kernel
theorem dX7_ofCatcher_12 : decode cX7_ofCatcher 12 = .ok (.iload_n 1, 1) := by decide +kernel
theorem dX7_ofCatcher_13 : decode cX7_ofCatcher 13 = .ok (.aaload, 1) := by decide +kernel
theorem dX7_ofCatcher_14 : decode cX7_ofCatcher 14 = .ok (.iload_n 2, 1) := by decide +kernel
theorem dX7_ofCatcher_15 : decode cX7_ofCatcher 15 = .ok (.invokevirtual 99, 3) := by decide +kernel
theorem dX7_ofCatcher_18 : decode cX7_ofCatcher 18 = .ok (.goto 4, 3) := by decide +kernel
theorem dX7_ofCatcher_21 : decode cX7_ofCatcher 21 = .ok (.iconst (-1), 1) := by decide +kernel
theorem dX7_ofCatcher_22 : decode cX7_ofCatcher 22 = .ok (.ireturn, 1) := by decide +kernel
set_option maxRecDepth 20000 in
theorem ggX7_ticks_X7_within : GoodIn wsX7_ticks wsX7_within := goodIn_r _ [5] (by decide +kernel) (by decide +kernel)
set_option maxRecDepth 20000 in
theorem gX7_ticks_X7_within : GoodIn wsX7_ticks (va_wsS RX7 62 yX7_within wsX7_within) := goodIn_app (goodIn_of _ (by decide +kernel)) ggX7_ticks_X7_within
set_option maxRecDepth 20000 in
theorem ggX7_ticks_X7_runTick : GoodIn wsX7_ticks wsX7_runTick := goodIn_r _ [9, 1, 10, 11, 12, 13, 14, 15, 16, 17, 18, 19, 20, 21, 22, 23, 24, 25, 26, 27, 28, 29, 30, 31, 32, 33, 4, 34, 35, 36, 37, 38, 39, 40, 41, 42, 43, 44, 45, 46, 47, 48, 49, 50, 51, 52, 53, 54, 55, 56, 57, 58, 59, 60, 61, 62, 63, 64, 65, 66, 67, 68, 69, 70, 71, 72, 73, 74, 75, 76, 77, 78, 79, 80, 81, 82, 83, 84, 85, 86, 87, 88, 89, 90, 91, 92, 93, 94, 95, 96, 97, 98, 99, 100, 101, 102, 103, 104, 105, 106, 107, 108, 109, 110, 111, 112, 113, 114, 115, 116, 117, 118, 119, 120, 121, 122, 123, 124, 125, 126, 127, 128, 129, 130, 131, 132, 133, 134, 135, 136, 137, 138, 139, 140, 141, 142, 143, 144, 145, 146, 147, 148, 149, 150, 151, 152, 153, 154, 155, 156, 157, 158, 159, 160, 161, 162, 163, 164, 165, 166, 167, 168, 169, 170, 171, 172, 173, 174, 175, 176, 177, 178, 179, 180, 181, 182, 183, 184, 185, 186, 187, 188, 189, 190, 191, 192, 193, 194, 195, 196, 197, 198, 199] (by decide +kernel) (by decide +kernel)
set_option maxRecDepth 20000 in
theorem gX7_ticks_X7_runTick : GoodIn wsX7_ticks (wsV RX7 100 RX7 yX7_runTick wsX7_runTick) := goodIn_app (goodIn_of _ (by decide +kernel)) ggX7_ticks_X7_runTick
theorem dX7_ticks_0 : decode cX7_ticks 0 = .ok (.iload_n 1, 1) := by decide +kernel
theorem dX7_ticks_1 : decode cX7_ticks 1 = .ok (.iconst 0, 1) := by decide +kernel
theorem dX7_ticks_2 : decode cX7_ticks 2 = .ok (.sipush 400, 3) := by decide +kernel
theorem dX7_ticks_5 : decode cX7_ticks 5 = .ok (.invokestatic 62, 3) := by decide +kernel
theorem dX7_ticks_8 : decode cX7_ticks 8 = .ok (.ifCond .ne 6, 3) := by decide +kernel
theorem dX7_ticks_11 : decode cX7_ticks 11 = .ok (.bipush (-2), 2) := by decide +kernel
theorem dX7_ticks_13 : decode cX7_ticks 13 = .ok (.ireturn, 1) := by decide +kernel
theorem dX7_ticks_14 : decode cX7_ticks 14 = .ok (.iconst 0, 1) := by decide +kernel
theorem dX7_ticks_15 : decode cX7_ticks 15 = .ok (.istore_n 2, 1) := by decide +kernel
theorem dX7_ticks_16 : decode cX7_ticks 16 = .ok (.iload_n 2, 1) := by decide +kernel
theorem dX7_ticks_17 : decode cX7_ticks 17 = .ok (.iload_n 1, 1) := by decide +kernel
theorem dX7_ticks_18 : decode cX7_ticks 18 = .ok (.if_icmp .ge 13, 3) := by decide +kernel
theorem dX7_ticks_21 : decode cX7_ticks 21 = .ok (.aload_n 0, 1) := by decide +kernel
theorem dX7_ticks_22 : decode cX7_ticks 22 = .ok (.invokevirtual 100, 3) := by decide +kernel
theorem dX7_ticks_25 : decode cX7_ticks 25 = .ok (.iinc 2 1, 3) := by decide +kernel
theorem dX7_ticks_28 : decode cX7_ticks 28 = .ok (.goto (-12), 3) := by decide +kernel
theorem dX7_ticks_31 : decode cX7_ticks 31 = .ok (.aload_n 0, 1) := by decide +kernel
theorem dX7_ticks_32 : decode cX7_ticks 32 = .ok (.getfield 103, 3) := by decide +kernel
theorem dX7_ticks_35 : decode cX7_ticks 35 = .ok (.ireturn, 1) := by decide +kernel
set_option maxRecDepth 20000 in
theorem ggX7_channel_X7_isOneOf : GoodIn wsX7_channel wsX7_isOneOf := goodIn_r _ [5] (by decide +kernel) (by decide +kernel)
set_option maxRecDepth 20000 in
theorem gX7_channel_X7_isOneOf : GoodIn wsX7_channel (va_wsS RX7 58 yX7_isOneOf wsX7_isOneOf) := goodIn_app (goodIn_of _ (by decide +kernel)) ggX7_channel_X7_isOneOf
set_option maxRecDepth 20000 in
theorem ggX7_channel_X7_within : GoodIn wsX7_channel wsX7_within := goodIn_r _ [8] (by decide +kernel) (by decide +kernel)
set_option maxRecDepth 20000 in
theorem gX7_channel_X7_within : GoodIn wsX7_channel (va_wsS RX7 62 yX7_within wsX7_within) := goodIn_app (goodIn_of _ (by decide +kernel)) ggX7_channel_X7_within
set_option maxRecDepth 20000 in
theorem ggX7_channel_X1_setUp : GoodIn wsX7_channel wsX1_setUp := goodIn_r _ [13, 14, 15, 16, 17, 18, 61, 62, 63, 64, 65, 66, 67, 68] (by decide +kernel) (by decide +kernel)
set_option maxRecDepth 20000 in
theorem gX7_channel_X1_setUp : GoodIn wsX7_channel (wsV RX7 106 RX1 yX1_setUp wsX1_setUp) := goodIn_app (goodIn_of _ (by decide +kernel)) ggX7_channel_X1_setUp
set_option maxRecDepth 20000 in
theorem ggX7_channel_X7_workOutPins : GoodIn wsX7_channel wsX7_workOutPins := goodIn_r _ [22, 23, 1, 24, 25, 26, 27, 28, 12, 29, 30, 31, 32, 33, 34, 35, 15, 18, 36, 17, 37, 38, 39, 40, 41, 42, 43, 44, 45, 46, 47, 48, 49, 50, 51, 52, 53, 54, 55, 56, 57, 58, 59, 60, 61, 62, 63, 64, 65, 66, 67, 68, 69, 70, 71, 72, 73, 74] (by decide +kernel) (by decide +kernel)
set_option maxRecDepth 20000 in
theorem gX7_channel_X7_workOutPins : GoodIn wsX7_channel (wsV RX7 107 RX7 yX7_workOutPins wsX7_workOutPins) := goodIn_app (goodIn_of _ (by decide +kernel)) ggX7_channel_X7_workOutPins
theorem dX7_channel_0 : decode cX7_channel 0 = .ok (.iconst 4, 1) := by decide +kernel
theorem dX7_channel_1 : decode cX7_channel 1 = .ok (.iload_n 1, 1) := by decide +kernel
theorem dX7_channel_2 : decode cX7_channel 2 = .ok (.invokestatic 58, 3) := by decide +kernel
theorem dX7_channel_5 : decode cX7_channel 5 = .ok (.ifCond .eq 11, 3) := by decide +kernel
theorem dX7_channel_8 : decode cX7_channel 8 = .ok (.iconst 4, 1) := by decide +kernel
theorem dX7_channel_9 : decode cX7_channel 9 = .ok (.iload_n 2, 1) := by decide +kernel
theorem dX7_channel_10 : decode cX7_channel 10 = .ok (.invokestatic 58, 3) := by decide +kernel
theorem dX7_channel_13 : decode cX7_channel 13 = .ok (.ifCond .ne 5, 3) := by decide +kernel
theorem dX7_channel_16 : decode cX7_channel 16 = .ok (.iconst (-1), 1) := by decide +kernel
theorem dX7_channel_17 : decode cX7_channel 17 = .ok (.ireturn, 1) := by decide +kernel
theorem dX7_channel_18 : decode cX7_channel 18 = .ok (.iload_n 3, 1) := by decide +kernel
theorem dX7_channel_19 : decode cX7_channel 19 = .ok (.iconst 0, 1) := by decide +kernel
theorem dX7_channel_20 : decode cX7_channel 20 = .ok (.iconst 4, 1) := by decide +kernel
theorem dX7_channel_21 : decode cX7_channel 21 = .ok (.invokestatic 62, 3) := by decide +kernel
theorem dX7_channel_24 : decode cX7_channel 24 = .ok (.ifCond .eq 15, 3) := by decide +kernel
theorem dX7_channel_27 : decode cX7_channel 27 = .ok (.iload 4, 2) := by decide +kernel
theorem dX7_channel_29 : decode cX7_channel 29 = .ok (.iconst 0, 1) := by decide +kernel
theorem dX7_channel_30 : decode cX7_channel 30 = .ok (.sipush 9999, 3) := by decide +kernel
theorem dX7_channel_33 : decode cX7_channel 33 = .ok (.invokestatic 62, 3) := by decide +kernel
theorem dX7_channel_36 : decode cX7_channel 36 = .ok (.ifCond .ne 6, 3) := by decide +kernel
theorem dX7_channel_39 : decode cX7_channel 39 = .ok (.bipush (-2), 2) := by decide +kernel
theorem dX7_channel_41 : decode cX7_channel 41 = .ok (.ireturn, 1) := by decide +kernel
theorem dX7_channel_42 : decode cX7_channel 42 = .ok (.aload_n 0, 1) := by decide +kernel
theorem dX7_channel_43 : decode cX7_channel 43 = .ok (.getfield 29, 3) := by decide +kernel
theorem dX7_channel_46 : decode cX7_channel 46 = .ok (.iload_n 1, 1) := by decide +kernel
theorem dX7_channel_47 : decode cX7_channel 47 = .ok (.aaload, 1) := by decide +kernel
theorem dX7_channel_48 : decode cX7_channel 48 = .ok (.iload_n 2, 1) := by decide +kernel
theorem dX7_channel_49 : decode cX7_channel 49 = .ok (.iload_n 3, 1) := by decide +kernel
theorem dX7_channel_50 : decode cX7_channel 50 = .ok (.iload 4, 2) := by decide +kernel
theorem dX7_channel_52 : decode cX7_channel 52 = .ok (.invokevirtual 106, 3) := by decide +kernel
theorem dX7_channel_55 : decode cX7_channel 55 = .ok (.aload_n 0, 1) := by decide +kernel
theorem dX7_channel_56 : decode cX7_channel 56 = .ok (.invokevirtual 107, 3) := by decide +kernel
theorem dX7_channel_59 : decode cX7_channel 59 = .ok (.iconst 1, 1) := by decide +kernel
theorem dX7_channel_60 : decode cX7_channel 60 = .ok (.ireturn, 1) := by decide +kernel
set_option maxRecDepth 20000 in
theorem ggX7_outputs_X7_isOneOf : GoodIn wsX7_outputs wsX7_isOneOf := goodIn_r _ [5] (by decide +kernel) (by decide +kernel)
set_option maxRecDepth 20000 in
theorem gX7_outputs_X7_isOneOf : GoodIn wsX7_outputs (va_wsS RX7 58 yX7_isOneOf wsX7_isOneOf) := goodIn_app (goodIn_of _ (by decide +kernel)) ggX7_outputs_X7_isOneOf
set_option maxRecDepth 20000 in
theorem ggX7_outputs_X7_within : GoodIn wsX7_outputs wsX7_within := goodIn_r _ [8] (by decide +kernel) (by decide +kernel)
set_option maxRecDepth 20000 in
theorem gX7_outputs_X7_within : GoodIn wsX7_outputs (va_wsS RX7 62 yX7_within wsX7_within) := goodIn_app (goodIn_of _ (by decide +kernel)) ggX7_outputs_X7_within
set_option maxRecDepth 20000 in
theorem ggX7_outputs_X7_isSetOfOutputs : GoodIn wsX7_outputs wsX7_isSetOfOutputs := goodIn_r _ [11, 6, 7, 4, 8] (by decide +kernel) (by decide +kernel)
set_option maxRecDepth 20000 in
theorem gX7_outputs_X7_isSetOfOutputs : GoodIn wsX7_outputs (va_wsS RX7 110 yX7_isSetOfOutputs wsX7_isSetOfOutputs) := goodIn_app (goodIn_of _ (by decide +kernel)) ggX7_outputs_X7_isSetOfOutputs
set_option maxRecDepth 20000 in
theorem ggX7_outputs_X1_shapeOutputs : GoodIn wsX7_outputs wsX1_shapeOutputs := goodIn_r _ [16, 17, 18, 19, 62, 63, 64, 65, 66, 67, 68, 69] (by decide +kernel) (by decide +kernel)
set_option maxRecDepth 20000 in
theorem gX7_outputs_X1_shapeOutputs : GoodIn wsX7_outputs (wsV RX7 114 RX1 yX1_shapeOutputs wsX1_shapeOutputs) := goodIn_app (goodIn_of _ (by decide +kernel)) ggX7_outputs_X1_shapeOutputs
set_option maxRecDepth 20000 in
theorem ggX7_outputs_X7_workOutPins : GoodIn wsX7_outputs wsX7_workOutPins := goodIn_r _ [23, 24, 1, 25, 26, 27, 28, 29, 15, 30, 19, 18, 31, 32, 33, 34, 35, 36, 17, 37, 38, 39, 40, 41, 42, 43, 44, 45, 46, 47, 48, 49, 50, 51, 52, 53, 54, 55, 56, 57, 58, 59, 60, 61, 62, 63, 64, 65, 66, 67, 68, 69, 70, 71, 72, 73, 74, 75] (by decide +kernel) (by decide +kernel)
set_option maxRecDepth 20000 in
theorem gX7_outputs_X7_workOutPins : GoodIn wsX7_outputs (wsV RX7 107 RX7 yX7_workOutPins wsX7_workOutPins) := goodIn_app (goodIn_of _ (by decide +kernel)) ggX7_outputs_X7_workOutPins
theorem dX7_outputs_0 : decode cX7_outputs 0 = .ok (.iconst 4, 1) := by decide +kernel
theorem dX7_outputs_1 : decode cX7_outputs 1 = .ok (.iload_n 1, 1) := by decide +kernel
theorem dX7_outputs_2 : decode cX7_outputs 2 = .ok (.invokestatic 58, 3) := by decide +kernel
theorem dX7_outputs_5 : decode cX7_outputs 5 = .ok (.ifCond .ne 5, 3) := by decide +kernel
theorem dX7_outputs_8 : decode cX7_outputs 8 = .ok (.iconst (-1), 1) := by decide +kernel
theorem dX7_outputs_9 : decode cX7_outputs 9 = .ok (.ireturn, 1) := by decide +kernel
theorem dX7_outputs_10 : decode cX7_outputs 10 = .ok (.iload_n 2, 1) := by decide +kernel
theorem dX7_outputs_11 : decode cX7_outputs 11 = .ok (.iconst 0, 1) := by decide +kernel
theorem dX7_outputs_12 : decode cX7_outputs 12 = .ok (.bipush 20, 2) := by decide +kernel
theorem dX7_outputs_14 : decode cX7_outputs 14 = .ok (.invokestatic 62, 3) := by decide +kernel
theorem dX7_outputs_17 : decode cX7_outputs 17 = .ok (.ifCond .eq 18, 3) := by decide +kernel
theorem dX7_outputs_20 : decode cX7_outputs 20 = .ok (.iload_n 3, 1) := by decide +kernel
theorem dX7_outputs_21 : decode cX7_outputs 21 = .ok (.invokestatic 110, 3) := by decide +kernel
theorem dX7_outputs_24 : decode cX7_outputs 24 = .ok (.ifCond .eq 11, 3) := by decide +kernel
theorem dX7_outputs_27 : decode cX7_outputs 27 = .ok (.iload 4, 2) := by decide +kernel
theorem dX7_outputs_29 : decode cX7_outputs 29 = .ok (.invokestatic 110, 3) := by decide +kernel
theorem dX7_outputs_32 : decode cX7_outputs 32 = .ok (.ifCond .ne 6, 3) := by decide +kernel
theorem dX7_outputs_35 : decode cX7_outputs 35 = .ok (.bipush (-2), 2) := by decide +kernel
theorem dX7_outputs_37 : decode cX7_outputs 37 = .ok (.ireturn, 1) := by decide +kernel
theorem dX7_outputs_38 : decode cX7_outputs 38 = .ok (.aload_n 0, 1) := by decide +kernel
theorem dX7_outputs_39 : decode cX7_outputs 39 = .ok (.getfield 29, 3) := by decide +kernel
theorem dX7_outputs_42 : decode cX7_outputs 42 = .ok (.iload_n 1, 1) := by decide +kernel
theorem dX7_outputs_43 : decode cX7_outputs 43 = .ok (.aaload, 1) := by decide +kernel
theorem dX7_outputs_44 : decode cX7_outputs 44 = .ok (.iload_n 2, 1) := by decide +kernel
theorem dX7_outputs_45 : decode cX7_outputs 45 = .ok (.iload_n 3, 1) := by decide +kernel
theorem dX7_outputs_46 : decode cX7_outputs 46 = .ok (.iload 4, 2) := by decide +kernel
theorem dX7_outputs_48 : decode cX7_outputs 48 = .ok (.invokevirtual 114, 3) := by decide +kernel
theorem dX7_outputs_51 : decode cX7_outputs 51 = .ok (.aload_n 0, 1) := by decide +kernel
theorem dX7_outputs_52 : decode cX7_outputs 52 = .ok (.invokevirtual 107, 3) := by decide +kernel
theorem dX7_outputs_55 : decode cX7_outputs 55 = .ok (.iconst 1, 1) := by decide +kernel
theorem dX7_outputs_56 : decode cX7_outputs 56 = .ok (.ireturn, 1) := by decide +kernel
set_option maxRecDepth 20000 in
theorem ggX7_ofChannel_X7_isOneOf : GoodIn wsX7_ofChannel wsX7_isOneOf := goodIn_r _ [6] (by decide +kernel) (by decide +kernel)
set_option maxRecDepth 20000 in
theorem gX7_ofChannel_X7_isOneOf : GoodIn wsX7_ofChannel (va_wsS RX7 58 yX7_isOneOf wsX7_isOneOf) := goodIn_app (goodIn_of _ (by decide +kernel)) ggX7_ofChannel_X7_isOneOf
set_option maxRecDepth 20000 in
theorem ggX7_ofChannel_X1_tell : GoodIn wsX7_ofChannel wsX1_tell := goodIn_r _ [11, 12, 13, 14, 15, 16, 17, 18, 19, 20, 21, 22, 10, 23, 33, 34, 35, 36, 37, 38, 39, 40] (by decide +kernel) (by decide +kernel)
set_option maxRecDepth 20000 in
theorem gX7_ofChannel_X1_tell : GoodIn wsX7_ofChannel (wsV RX7 121 RX1 yX1_tell wsX1_tell) := goodIn_app (goodIn_of _ (by decide +kernel)) ggX7_ofChannel_X1_tell
theorem dX7_ofChannel_0 : decode cX7_ofChannel 0 = .ok (.iconst 4, 1) := by decide +kernel
theorem dX7_ofChannel_1 : decode cX7_ofChannel 1 = .ok (.iload_n 1, 1) := by decide +kernel
theorem dX7_ofChannel_2 : decode cX7_ofChannel 2 = .ok (.invokestatic 58, 3) := by decide +kernel
theorem dX7_ofChannel_5 : decode cX7_ofChannel 5 = .ok (.ifCond .eq 20, 3) := by decide +kernel
theorem dX7_ofChannel_8 : decode cX7_ofChannel 8 = .ok (.aload_n 0, 1) := by decide +kernel
theorem dX7_ofChannel_9 : decode cX7_ofChannel 9 = .ok (.getfield 29, 3) := by decide +kernel
theorem dX7_ofChannel_12 : decode cX7_ofChannel 12 = .ok (.iload_n 1, 1) := by decide +kernel
theorem dX7_ofChannel_13 : decode cX7_ofChannel 13 = .ok (.aaload, 1) := by decide +kernel
theorem dX7_ofChannel_14 : decode cX7_ofChannel 14 = .ok (.iload_n 2, 1) := by decide +kernel
theorem dX7_ofChannel_15 : decode cX7_ofChannel 15 = .ok (.aload_n 0, 1) := by decide +kernel
theorem dX7_ofChannel_16 : decode cX7_ofChannel 16 = .ok (.getfield 117, 3) := by decide +kernel
theorem dX7_ofChannel_19 : decode cX7_ofChannel 19 = .ok (.invokevirtual 121, 3) := by decide +kernel
theorem dX7_ofChannel_22 : decode cX7_ofChannel 22 = .ok (.goto 4, 3) := by decide +kernel
theorem dX7_ofChannel_25 : decode cX7_ofChannel 25 = .ok (.iconst (-1), 1) := by decide +kernel
theorem dX7_ofChannel_26 : decode cX7_ofChannel 26 = .ok (.ireturn, 1) := by decide +kernel
set_option maxRecDepth 20000 in
theorem ggX7_pin_X7_isOneOf : GoodIn wsX7_pin wsX7_isOneOf := goodIn_r _ [6] (by decide +kernel) (by decide +kernel)
set_option maxRecDepth 20000 in
theorem gX7_pin_X7_isOneOf : GoodIn wsX7_pin (va_wsS RX7 58 yX7_isOneOf wsX7_isOneOf) := goodIn_app (goodIn_of _ (by decide +kernel)) ggX7_pin_X7_isOneOf
theorem dX7_pin_0 : decode cX7_pin 0 = .ok (.bipush 8, 2) := by decide +kernel
theorem dX7_pin_2 : decode cX7_pin 2 = .ok (.iload_n 1, 1) := by decide +kernel
theorem dX7_pin_3 : decode cX7_pin 3 = .ok (.invokestatic 58, 3) := by decide +kernel
theorem dX7_pin_6 : decode cX7_pin 6 = .ok (.ifCond .eq 15, 3) := by decide +kernel
theorem dX7_pin_9 : decode cX7_pin 9 = .ok (.aload_n 0, 1) := by decide +kernel
theorem dX7_pin_10 : decode cX7_pin 10 = .ok (.getfield 42, 3) := by decide +kernel
theorem dX7_pin_13 : decode cX7_pin 13 = .ok (.getfield 124, 3) := by decide +kernel
theorem dX7_pin_16 : decode cX7_pin 16 = .ok (.iload_n 1, 1) := by decide +kernel
theorem dX7_pin_17 : decode cX7_pin 17 = .ok (.iaload, 1) := by decide +kernel
theorem dX7_pin_18 : decode cX7_pin 18 = .ok (.goto 5, 3) := by decide +kernel
theorem dX7_pin_21 : decode cX7_pin 21 = .ok (.bipush (-2), 2) := by decide +kernel
theorem dX7_pin_23 : decode cX7_pin 23 = .ok (.ireturn, 1) := by decide +kernel
set_option maxRecDepth 20000 in
theorem ggX7_brake_X7_workOutPins : GoodIn wsX7_brake wsX7_workOutPins := goodIn_r _ [6, 7, 8, 1, 9, 10, 11, 12, 13, 14, 15, 16, 17, 18, 19, 20, 21, 22, 23, 24, 25, 26, 27, 28, 29, 30, 31, 32, 33, 34, 35, 36, 37, 38, 39, 40, 41, 42, 43, 44, 45, 46, 47, 48, 49, 50, 51, 52, 53, 54, 55, 56, 57, 58, 59, 60, 61, 62] (by decide +kernel) (by decide +kernel)
set_option maxRecDepth 20000 in
theorem gX7_brake_X7_workOutPins : GoodIn wsX7_brake (wsV RX7 107 RX7 yX7_workOutPins wsX7_workOutPins) := goodIn_app (goodIn_of _ (by decide +kernel)) ggX7_brake_X7_workOutPins
theorem dX7_brake_0 : decode cX7_brake 0 = .ok (.aload_n 0, 1) := by decide +kernel
theorem dX7_brake_1 : decode cX7_brake 1 = .ok (.getfield 117, 3) := by decide +kernel
theorem dX7_brake_4 : decode cX7_brake 4 = .ok (.ifCond .eq 7, 3) := by decide +kernel
theorem dX7_brake_7 : decode cX7_brake 7 = .ok (.iconst 0, 1) := by decide +kernel
theorem dX7_brake_8 : decode cX7_brake 8 = .ok (.goto 4, 3) := by decide +kernel
theorem dX7_brake_11 : decode cX7_brake 11 = .ok (.iconst 1, 1) := by decide +kernel
theorem dX7_brake_12 : decode cX7_brake 12 = .ok (.istore_n 1, 1) := by decide +kernel
theorem dX7_brake_13 : decode cX7_brake 13 = .ok (.aload_n 0, 1) := by decide +kernel
theorem dX7_brake_14 : decode cX7_brake 14 = .ok (.iconst 1, 1) := by decide +kernel
theorem dX7_brake_15 : decode cX7_brake 15 = .ok (.putfield 117, 3) := by decide +kernel
theorem dX7_brake_18 : decode cX7_brake 18 = .ok (.aload_n 0, 1) := by decide +kernel
theorem dX7_brake_19 : decode cX7_brake 19 = .ok (.invokevirtual 107, 3) := by decide +kernel
theorem dX7_brake_22 : decode cX7_brake 22 = .ok (.iload_n 1, 1) := by decide +kernel
theorem dX7_brake_23 : decode cX7_brake 23 = .ok (.ireturn, 1) := by decide +kernel
set_option maxRecDepth 20000 in
theorem ggX7_arm_X7_workOutPins : GoodIn wsX7_arm wsX7_workOutPins := goodIn_r _ [6, 7, 8, 1, 9, 10, 11, 12, 13, 14, 15, 16, 17, 18, 19, 20, 21, 22, 23, 24, 25, 26, 27, 28, 29, 30, 31, 32, 33, 34, 35, 36, 37, 38, 39, 40, 41, 42, 43, 44, 45, 46, 47, 48, 49, 50, 51, 52, 53, 54, 55, 56, 57, 58, 59, 60, 61, 62] (by decide +kernel) (by decide +kernel)
set_option maxRecDepth 20000 in
theorem gX7_arm_X7_workOutPins : GoodIn wsX7_arm (wsV RX7 107 RX7 yX7_workOutPins wsX7_workOutPins) := goodIn_app (goodIn_of _ (by decide +kernel)) ggX7_arm_X7_workOutPins
theorem dX7_arm_0 : decode cX7_arm 0 = .ok (.aload_n 0, 1) := by decide +kernel
theorem dX7_arm_1 : decode cX7_arm 1 = .ok (.getfield 117, 3) := by decide +kernel
theorem dX7_arm_4 : decode cX7_arm 4 = .ok (.ifCond .eq 7, 3) := by decide +kernel
theorem dX7_arm_7 : decode cX7_arm 7 = .ok (.iconst 1, 1) := by decide +kernel
theorem dX7_arm_8 : decode cX7_arm 8 = .ok (.goto 4, 3) := by decide +kernel
theorem dX7_arm_11 : decode cX7_arm 11 = .ok (.iconst 0, 1) := by decide +kernel
theorem dX7_arm_12 : decode cX7_arm 12 = .ok (.istore_n 1, 1) := by decide +kernel
theorem dX7_arm_13 : decode cX7_arm 13 = .ok (.aload_n 0, 1) := by decide +kernel
theorem dX7_arm_14 : decode cX7_arm 14 = .ok (.iconst 0, 1) := by decide +kernel
theorem dX7_arm_15 : decode cX7_arm 15 = .ok (.putfield 117, 3) := by decide +kernel
theorem dX7_arm_18 : decode cX7_arm 18 = .ok (.aload_n 0, 1) := by decide +kernel
theorem dX7_arm_19 : decode cX7_arm 19 = .ok (.invokevirtual 107, 3) := by decide +kernel
theorem dX7_arm_22 : decode cX7_arm 22 = .ok (.iload_n 1, 1) := by decide +kernel
theorem dX7_arm_23 : decode cX7_arm 23 = .ok (.ireturn, 1) := by decide +kernel
set_option maxRecDepth 20000 in
theorem ggX7_record_X7_isOneOf : GoodIn wsX7_record wsX7_isOneOf := goodIn_r _ [5] (by decide +kernel) (by decide +kernel)
set_option maxRecDepth 20000 in
theorem gX7_record_X7_isOneOf : GoodIn wsX7_record (va_wsS RX7 58 yX7_isOneOf wsX7_isOneOf) := goodIn_app (goodIn_of _ (by decide +kernel)) ggX7_record_X7_isOneOf
set_option maxRecDepth 20000 in
theorem ggX7_record_X5_tell : GoodIn wsX7_record wsX5_tell := goodIn_r _ [10, 11, 12, 13, 14, 15, 16, 4, 17, 27, 28, 29, 30, 31, 32] (by decide +kernel) (by decide +kernel)
set_option maxRecDepth 20000 in
theorem gX7_record_X5_tell : GoodIn wsX7_record (wsV RX7 128 RX5 yX5_tell wsX5_tell) := goodIn_app (goodIn_of _ (by decide +kernel)) ggX7_record_X5_tell
theorem dX7_record_0 : decode cX7_record 0 = .ok (.bipush 24, 2) := by decide +kernel
theorem dX7_record_2 : decode cX7_record 2 = .ok (.iload_n 1, 1) := by decide +kernel
theorem dX7_record_3 : decode cX7_record 3 = .ok (.invokestatic 58, 3) := by decide +kernel
theorem dX7_record_6 : decode cX7_record 6 = .ok (.ifCond .eq 15, 3) := by decide +kernel
theorem dX7_record_9 : decode cX7_record 9 = .ok (.aload_n 0, 1) := by decide +kernel
theorem dX7_record_10 : decode cX7_record 10 = .ok (.getfield 42, 3) := by decide +kernel
theorem dX7_record_13 : decode cX7_record 13 = .ok (.iload_n 1, 1) := by decide +kernel
theorem dX7_record_14 : decode cX7_record 14 = .ok (.iload_n 2, 1) := by decide +kernel
theorem dX7_record_15 : decode cX7_record 15 = .ok (.invokevirtual 128, 3) := by decide +kernel
theorem dX7_record_18 : decode cX7_record 18 = .ok (.goto 5, 3) := by decide +kernel
theorem dX7_record_21 : decode cX7_record 21 = .ok (.bipush (-2), 2) := by decide +kernel
theorem dX7_record_23 : decode cX7_record 23 = .ok (.ireturn, 1) := by decide +kernel
set_option maxRecDepth 20000 in
theorem ggX7_holds_X7_isOneOf : GoodIn wsX7_holds wsX7_isOneOf := goodIn_r _ [7] (by decide +kernel) (by decide +kernel)
set_option maxRecDepth 20000 in
theorem gX7_holds_X7_isOneOf : GoodIn wsX7_holds (va_wsS RX7 58 yX7_isOneOf wsX7_isOneOf) := goodIn_app (goodIn_of _ (by decide +kernel)) ggX7_holds_X7_isOneOf
set_option maxRecDepth 20000 in
theorem ggX7_holds_X7_within : GoodIn wsX7_holds wsX7_within := goodIn_r _ [10] (by decide +kernel) (by decide +kernel)
set_option maxRecDepth 20000 in
theorem gX7_holds_X7_within : GoodIn wsX7_holds (va_wsS RX7 62 yX7_within wsX7_within) := goodIn_app (goodIn_of _ (by decide +kernel)) ggX7_holds_X7_within
theorem dX7_holds_0 : decode cX7_holds 0 = .ok (.iconst 2, 1) := by decide +kernel
theorem dX7_holds_1 : decode cX7_holds 1 = .ok (.iload_n 1, 1) := by decide +kernel
theorem dX7_holds_2 : decode cX7_holds 2 = .ok (.invokestatic 58, 3) := by decide +kernel
theorem dX7_holds_5 : decode cX7_holds 5 = .ok (.ifCond .ne 5, 3) := by decide +kernel
theorem dX7_holds_8 : decode cX7_holds 8 = .ok (.iconst (-1), 1) := by decide +kernel
theorem dX7_holds_9 : decode cX7_holds 9 = .ok (.ireturn, 1) := by decide +kernel
theorem dX7_holds_10 : decode cX7_holds 10 = .ok (.iload_n 2, 1) := by decide +kernel
theorem dX7_holds_11 : decode cX7_holds 11 = .ok (.iconst 0, 1) := by decide +kernel
theorem dX7_holds_12 : decode cX7_holds 12 = .ok (.iconst 1, 1) := by decide +kernel
theorem dX7_holds_13 : decode cX7_holds 13 = .ok (.invokestatic 62, 3) := by decide +kernel
theorem dX7_holds_16 : decode cX7_holds 16 = .ok (.ifCond .ne 6, 3) := by decide +kernel
theorem dX7_holds_19 : decode cX7_holds 19 = .ok (.bipush (-2), 2) := by decide +kernel
theorem dX7_holds_21 : decode cX7_holds 21 = .ok (.ireturn, 1) := by decide +kernel
theorem dX7_holds_22 : decode cX7_holds 22 = .ok (.aload_n 0, 1) := by decide +kernel
theorem dX7_holds_23 : decode cX7_holds 23 = .ok (.getfield 35, 3) := by decide +kernel
theorem dX7_holds_26 : decode cX7_holds 26 = .ok (.iload_n 1, 1) := by decide +kernel
theorem dX7_holds_27 : decode cX7_holds 27 = .ok (.aaload, 1) := by decide +kernel
theorem dX7_holds_28 : decode cX7_holds 28 = .ok (.getfield 131, 3) := by decide +kernel
theorem dX7_holds_31 : decode cX7_holds 31 = .ok (.istore_n 3, 1) := by decide +kernel
theorem dX7_holds_32 : decode cX7_holds 32 = .ok (.aload_n 0, 1) := by decide +kernel
theorem dX7_holds_33 : decode cX7_holds 33 = .ok (.getfield 35, 3) := by decide +kernel
theorem dX7_holds_36 : decode cX7_holds 36 = .ok (.iload_n 1, 1) := by decide +kernel
theorem dX7_holds_37 : decode cX7_holds 37 = .ok (.aaload, 1) := by decide +kernel
theorem dX7_holds_38 : decode cX7_holds 38 = .ok (.iload_n 2, 1) := by decide +kernel
theorem dX7_holds_39 : decode cX7_holds 39 = .ok (.putfield 131, 3) := by decide +kernel
theorem dX7_holds_42 : decode cX7_holds 42 = .ok (.aload_n 0, 1) := by decide +kernel
theorem dX7_holds_43 : decode cX7_holds 43 = .ok (.getfield 35, 3) := by decide +kernel
theorem dX7_holds_46 : decode cX7_holds 46 = .ok (.iload_n 1, 1) := by decide +kernel
theorem dX7_holds_47 : decode cX7_holds 47 = .ok (.aaload, 1) := by decide +kernel
theorem dX7_holds_48 : decode cX7_holds 48 = .ok (.bipush (-9), 2) := by decide +kernel
theorem dX7_holds_50 : decode cX7_holds 50 = .ok (.putfield 134, 3) := by decide +kernel
theorem dX7_holds_53 : decode cX7_holds 53 = .ok (.iload_n 3, 1) := by decide +kernel
theorem dX7_holds_54 : decode cX7_holds 54 = .ok (.ireturn, 1) := by decide +kernel
set_option maxRecDepth 20000 in
theorem ggX7_read_X7_isOneOf : GoodIn wsX7_read wsX7_isOneOf := goodIn_r _ [8] (by decide +kernel) (by decide +kernel)
set_option maxRecDepth 20000 in
theorem gX7_read_X7_isOneOf : GoodIn wsX7_read (va_wsS RX7 58 yX7_isOneOf wsX7_isOneOf) := goodIn_app (goodIn_of _ (by decide +kernel)) ggX7_read_X7_isOneOf
set_option maxRecDepth 20000 in
theorem ggX7_read_X7_within : GoodIn wsX7_read wsX7_within := goodIn_r _ [11] (by decide +kernel) (by decide +kernel)
set_option maxRecDepth 20000 in
theorem gX7_read_X7_within : GoodIn wsX7_read (va_wsS RX7 62 yX7_within wsX7_within) := goodIn_app (goodIn_of _ (by decide +kernel)) ggX7_read_X7_within
set_option maxRecDepth 20000 in
theorem ggX7_read_X7_isWhole : GoodIn wsX7_read wsX7_isWhole := goodIn_r _ [15, 1, 16, 17, 18, 26, 27, 28, 29, 30, 31, 32, 33, 34, 35, 36, 37, 38, 39, 40, 41, 42, 43, 44, 45] (by decide +kernel) (by decide +kernel)
set_option maxRecDepth 20000 in
theorem gX7_read_X7_isWhole : GoodIn wsX7_read (wsV RX7 137 RX7 yX7_isWhole wsX7_isWhole) := goodIn_app (goodIn_of _ (by decide +kernel)) ggX7_read_X7_isWhole
set_option maxRecDepth 20000 in
theorem ggX7_read_X4_takeHigh : GoodIn wsX7_read wsX4_takeHigh := goodIn_r _ [23, 24, 25, 46, 47] (by decide +kernel) (by decide +kernel)
set_option maxRecDepth 20000 in
theorem gX7_read_X4_takeHigh : GoodIn wsX7_read (wsV RX7 140 RX4 yX4_takeHigh wsX4_takeHigh) := goodIn_app (goodIn_of _ (by decide +kernel)) ggX7_read_X4_takeHigh
theorem dX7_read_0 : decode cX7_read 0 = .ok (.iconst 2, 1) := by decide +kernel
theorem dX7_read_1 : decode cX7_read 1 = .ok (.iload_n 1, 1) := by decide +kernel
theorem dX7_read_2 : decode cX7_read 2 = .ok (.invokestatic 58, 3) := by decide +kernel
theorem dX7_read_5 : decode cX7_read 5 = .ok (.ifCond .ne 5, 3) := by decide +kernel
theorem dX7_read_8 : decode cX7_read 8 = .ok (.iconst (-1), 1) := by decide +kernel
theorem dX7_read_9 : decode cX7_read 9 = .ok (.ireturn, 1) := by decide +kernel
theorem dX7_read_10 : decode cX7_read 10 = .ok (.iload_n 2, 1) := by decide +kernel
theorem dX7_read_11 : decode cX7_read 11 = .ok (.iconst 0, 1) := by decide +kernel
theorem dX7_read_12 : decode cX7_read 12 = .ok (.iconst 1, 1) := by decide +kernel
theorem dX7_read_13 : decode cX7_read 13 = .ok (.invokestatic 62, 3) := by decide +kernel
theorem dX7_read_16 : decode cX7_read 16 = .ok (.ifCond .ne 6, 3) := by decide +kernel
theorem dX7_read_19 : decode cX7_read 19 = .ok (.bipush (-2), 2) := by decide +kernel
theorem dX7_read_21 : decode cX7_read 21 = .ok (.ireturn, 1) := by decide +kernel
theorem dX7_read_22 : decode cX7_read 22 = .ok (.aload_n 0, 1) := by decide +kernel
theorem dX7_read_23 : decode cX7_read 23 = .ok (.iload_n 1, 1) := by decide +kernel
theorem dX7_read_24 : decode cX7_read 24 = .ok (.invokevirtual 137, 3) := by decide +kernel
theorem dX7_read_27 : decode cX7_read 27 = .ok (.ifCond .ne 6, 3) := by decide +kernel
theorem dX7_read_30 : decode cX7_read 30 = .ok (.bipush (-3), 2) := by decide +kernel
theorem dX7_read_32 : decode cX7_read 32 = .ok (.ireturn, 1) := by decide +kernel
theorem dX7_read_33 : decode cX7_read 33 = .ok (.aload_n 0, 1) := by decide +kernel
theorem dX7_read_34 : decode cX7_read 34 = .ok (.getfield 11, 3) := by decide +kernel
theorem dX7_read_37 : decode cX7_read 37 = .ok (.iconst 2, 1) := by decide +kernel
theorem dX7_read_38 : decode cX7_read 38 = .ok (.iload_n 1, 1) := by decide +kernel
theorem dX7_read_39 : decode cX7_read 39 = .ok (.imul, 1) := by decide +kernel
theorem dX7_read_40 : decode cX7_read 40 = .ok (.iconst 1, 1) := by decide +kernel
theorem dX7_read_41 : decode cX7_read 41 = .ok (.iadd, 1) := by decide +kernel
theorem dX7_read_42 : decode cX7_read 42 = .ok (.aaload, 1) := by decide +kernel
theorem dX7_read_43 : decode cX7_read 43 = .ok (.getfield 77, 3) := by decide +kernel
theorem dX7_read_46 : decode cX7_read 46 = .ok (.istore_n 3, 1) := by decide +kernel
theorem dX7_read_47 : decode cX7_read 47 = .ok (.iload_n 2, 1) := by decide +kernel
theorem dX7_read_48 : decode cX7_read 48 = .ok (.iconst 1, 1) := by decide +kernel
theorem dX7_read_49 : decode cX7_read 49 = .ok (.if_icmp .ne 14, 3) := by decide +kernel
theorem dX7_read_52 : decode cX7_read 52 = .ok (.aload_n 0, 1) := by decide +kernel
theorem dX7_read_53 : decode cX7_read 53 = .ok (.getfield 35, 3) := by decide +kernel
theorem dX7_read_56 : decode cX7_read 56 = .ok (.iload_n 1, 1) := by decide +kernel
theorem dX7_read_57 : decode cX7_read 57 = .ok (.aaload, 1) := by decide +kernel
theorem dX7_read_58 : decode cX7_read 58 = .ok (.iload_n 3, 1) := by decide +kernel
theorem dX7_read_59 : decode cX7_read 59 = .ok (.invokevirtual 140, 3) := by decide +kernel
theorem dX7_read_62 : decode cX7_read 62 = .ok (.ireturn, 1) := by decide +kernel
theorem dX7_read_63 : decode cX7_read 63 = .ok (.aload_n 0, 1) := by decide +kernel
theorem dX7_read_64 : decode cX7_read 64 = .ok (.getfield 35, 3) := by decide +kernel
theorem dX7_read_67 : decode cX7_read 67 = .ok (.iload_n 1, 1) := by decide +kernel
theorem dX7_read_68 : decode cX7_read 68 = .ok (.aaload, 1) := by decide +kernel
theorem dX7_read_69 : decode cX7_read 69 = .ok (.iload_n 3, 1) := by decide +kernel
theorem dX7_read_70 : decode cX7_read 70 = .ok (.putfield 134, 3) := by decide +kernel
theorem dX7_read_73 : decode cX7_read 73 = .ok (.aload_n 0, 1) := by decide +kernel
theorem dX7_read_74 : decode cX7_read 74 = .ok (.getfield 11, 3) := by decide +kernel
theorem dX7_read_77 : decode cX7_read 77 = .ok (.iconst 2, 1) := by decide +kernel
theorem dX7_read_78 : decode cX7_read 78 = .ok (.iload_n 1, 1) := by decide +kernel
theorem dX7_read_79 : decode cX7_read 79 = .ok (.imul, 1) := by decide +kernel
theorem dX7_read_80 : decode cX7_read 80 = .ok (.aaload, 1) := by decide +kernel
theorem dX7_read_81 : decode cX7_read 81 = .ok (.getfield 77, 3) := by decide +kernel
theorem dX7_read_84 : decode cX7_read 84 = .ok (.ireturn, 1) := by decide +kernel
set_option maxRecDepth 20000 in
theorem ggX7_wide_X7_isOneOf : GoodIn wsX7_wide wsX7_isOneOf := goodIn_r _ [7] (by decide +kernel) (by decide +kernel)
set_option maxRecDepth 20000 in
theorem gX7_wide_X7_isOneOf : GoodIn wsX7_wide (va_wsS RX7 58 yX7_isOneOf wsX7_isOneOf) := goodIn_app (goodIn_of _ (by decide +kernel)) ggX7_wide_X7_isOneOf
set_option maxRecDepth 20000 in
theorem ggX7_wide_X7_isWhole : GoodIn wsX7_wide wsX7_isWhole := goodIn_r _ [11, 1, 12, 13, 14, 15, 16, 17, 18, 19, 20, 21, 22, 23, 24, 25, 26, 27, 28, 29, 30, 31, 32, 33, 34] (by decide +kernel) (by decide +kernel)
set_option maxRecDepth 20000 in
theorem gX7_wide_X7_isWhole : GoodIn wsX7_wide (wsV RX7 137 RX7 yX7_isWhole wsX7_isWhole) := goodIn_app (goodIn_of _ (by decide +kernel)) ggX7_wide_X7_isWhole
theorem dX7_wide_0 : decode cX7_wide 0 = .ok (.iconst 2, 1) := by decide +kernel
theorem dX7_wide_1 : decode cX7_wide 1 = .ok (.iload_n 1, 1) := by decide +kernel
theorem dX7_wide_2 : decode cX7_wide 2 = .ok (.invokestatic 58, 3) := by decide +kernel
theorem dX7_wide_5 : decode cX7_wide 5 = .ok (.ifCond .ne 5, 3) := by decide +kernel
theorem dX7_wide_8 : decode cX7_wide 8 = .ok (.iconst (-1), 1) := by decide +kernel
theorem dX7_wide_9 : decode cX7_wide 9 = .ok (.ireturn, 1) := by decide +kernel
theorem dX7_wide_10 : decode cX7_wide 10 = .ok (.aload_n 0, 1) := by decide +kernel
theorem dX7_wide_11 : decode cX7_wide 11 = .ok (.iload_n 1, 1) := by decide +kernel
theorem dX7_wide_12 : decode cX7_wide 12 = .ok (.invokevirtual 137, 3) := by decide +kernel
theorem dX7_wide_15 : decode cX7_wide 15 = .ok (.ifCond .ne 6, 3) := by decide +kernel
theorem dX7_wide_18 : decode cX7_wide 18 = .ok (.bipush (-3), 2) := by decide +kernel
theorem dX7_wide_20 : decode cX7_wide 20 = .ok (.ireturn, 1) := by decide +kernel
theorem dX7_wide_21 : decode cX7_wide 21 = .ok (.aload_n 0, 1) := by decide +kernel
theorem dX7_wide_22 : decode cX7_wide 22 = .ok (.getfield 11, 3) := by decide +kernel
theorem dX7_wide_25 : decode cX7_wide 25 = .ok (.iconst 2, 1) := by decide +kernel
theorem dX7_wide_26 : decode cX7_wide 26 = .ok (.iload_n 1, 1) := by decide +kernel
theorem dX7_wide_27 : decode cX7_wide 27 = .ok (.imul, 1) := by decide +kernel
theorem dX7_wide_28 : decode cX7_wide 28 = .ok (.aaload, 1) := by decide +kernel
theorem dX7_wide_29 : decode cX7_wide 29 = .ok (.astore_n 2, 1) := by decide +kernel
theorem dX7_wide_30 : decode cX7_wide 30 = .ok (.aload_n 0, 1) := by decide +kernel
theorem dX7_wide_31 : decode cX7_wide 31 = .ok (.getfield 11, 3) := by decide +kernel
theorem dX7_wide_34 : decode cX7_wide 34 = .ok (.iconst 2, 1) := by decide +kernel
theorem dX7_wide_35 : decode cX7_wide 35 = .ok (.iload_n 1, 1) := by decide +kernel
theorem dX7_wide_36 : decode cX7_wide 36 = .ok (.imul, 1) := by decide +kernel
theorem dX7_wide_37 : decode cX7_wide 37 = .ok (.iconst 1, 1) := by decide +kernel
theorem dX7_wide_38 : decode cX7_wide 38 = .ok (.iadd, 1) := by decide +kernel
theorem dX7_wide_39 : decode cX7_wide 39 = .ok (.aaload, 1) := by decide +kernel
theorem dX7_wide_40 : decode cX7_wide 40 = .ok (.astore_n 3, 1) := by decide +kernel
theorem dX7_wide_41 : decode cX7_wide 41 = .ok (.aload_n 3, 1) := by decide +kernel
theorem dX7_wide_42 : decode cX7_wide 42 = .ok (.getfield 77, 3) := by decide +kernel
theorem dX7_wide_45 : decode cX7_wide 45 = .ok (.aload_n 2, 1) := by decide +kernel
theorem dX7_wide_46 : decode cX7_wide 46 = .ok (.getfield 74, 3) := by decide +kernel
theorem dX7_wide_49 : decode cX7_wide 49 = .ok (.iconst 1, 1) := by decide +kernel
theorem dX7_wide_50 : decode cX7_wide 50 = .ok (.iadd, 1) := by decide +kernel
theorem dX7_wide_51 : decode cX7_wide 51 = .ok (.imul, 1) := by decide +kernel
theorem dX7_wide_52 : decode cX7_wide 52 = .ok (.aload_n 2, 1) := by decide +kernel
theorem dX7_wide_53 : decode cX7_wide 53 = .ok (.getfield 77, 3) := by decide +kernel
theorem dX7_wide_56 : decode cX7_wide 56 = .ok (.iadd, 1) := by decide +kernel
theorem dX7_wide_57 : decode cX7_wide 57 = .ok (.ireturn, 1) := by decide +kernel
set_option maxRecDepth 20000 in
theorem ggX7_slow_X7_isOneOf : GoodIn wsX7_slow wsX7_isOneOf := goodIn_r _ [5] (by decide +kernel) (by decide +kernel)
set_option maxRecDepth 20000 in
theorem gX7_slow_X7_isOneOf : GoodIn wsX7_slow (va_wsS RX7 58 yX7_isOneOf wsX7_isOneOf) := goodIn_app (goodIn_of _ (by decide +kernel)) ggX7_slow_X7_isOneOf
set_option maxRecDepth 20000 in
theorem ggX7_slow_X7_within : GoodIn wsX7_slow wsX7_within := goodIn_r _ [8] (by decide +kernel) (by decide +kernel)
set_option maxRecDepth 20000 in
theorem gX7_slow_X7_within : GoodIn wsX7_slow (va_wsS RX7 62 yX7_within wsX7_within) := goodIn_app (goodIn_of _ (by decide +kernel)) ggX7_slow_X7_within
set_option maxRecDepth 20000 in
theorem ggX7_slow_X6_setUp : GoodIn wsX7_slow wsX6_setUp := goodIn_r _ [13, 14, 15, 16, 17, 18, 28, 29, 30, 31, 32] (by decide +kernel) (by decide +kernel)
set_option maxRecDepth 20000 in
theorem gX7_slow_X6_setUp : GoodIn wsX7_slow (wsV RX7 143 RX6 yX6_setUp wsX6_setUp) := goodIn_app (goodIn_of _ (by decide +kernel)) ggX7_slow_X6_setUp
theorem dX7_slow_0 : decode cX7_slow 0 = .ok (.iconst 4, 1) := by decide +kernel
theorem dX7_slow_1 : decode cX7_slow 1 = .ok (.iload_n 2, 1) := by decide +kernel
theorem dX7_slow_2 : decode cX7_slow 2 = .ok (.invokestatic 58, 3) := by decide +kernel
theorem dX7_slow_5 : decode cX7_slow 5 = .ok (.ifCond .ne 5, 3) := by decide +kernel
theorem dX7_slow_8 : decode cX7_slow 8 = .ok (.iconst (-1), 1) := by decide +kernel
theorem dX7_slow_9 : decode cX7_slow 9 = .ok (.ireturn, 1) := by decide +kernel
theorem dX7_slow_10 : decode cX7_slow 10 = .ok (.iload_n 1, 1) := by decide +kernel
theorem dX7_slow_11 : decode cX7_slow 11 = .ok (.iconst 2, 1) := by decide +kernel
theorem dX7_slow_12 : decode cX7_slow 12 = .ok (.bipush 16, 2) := by decide +kernel
theorem dX7_slow_14 : decode cX7_slow 14 = .ok (.invokestatic 62, 3) := by decide +kernel
theorem dX7_slow_17 : decode cX7_slow 17 = .ok (.ifCond .eq 12, 3) := by decide +kernel
theorem dX7_slow_20 : decode cX7_slow 20 = .ok (.iload_n 3, 1) := by decide +kernel
theorem dX7_slow_21 : decode cX7_slow 21 = .ok (.iconst 0, 1) := by decide +kernel
theorem dX7_slow_22 : decode cX7_slow 22 = .ok (.iconst 1, 1) := by decide +kernel
theorem dX7_slow_23 : decode cX7_slow 23 = .ok (.invokestatic 62, 3) := by decide +kernel
theorem dX7_slow_26 : decode cX7_slow 26 = .ok (.ifCond .ne 6, 3) := by decide +kernel
theorem dX7_slow_29 : decode cX7_slow 29 = .ok (.bipush (-2), 2) := by decide +kernel
theorem dX7_slow_31 : decode cX7_slow 31 = .ok (.ireturn, 1) := by decide +kernel
theorem dX7_slow_32 : decode cX7_slow 32 = .ok (.aload_n 0, 1) := by decide +kernel
theorem dX7_slow_33 : decode cX7_slow 33 = .ok (.getfield 49, 3) := by decide +kernel
theorem dX7_slow_36 : decode cX7_slow 36 = .ok (.iload_n 1, 1) := by decide +kernel
theorem dX7_slow_37 : decode cX7_slow 37 = .ok (.iload_n 2, 1) := by decide +kernel
theorem dX7_slow_38 : decode cX7_slow 38 = .ok (.iload_n 3, 1) := by decide +kernel
theorem dX7_slow_39 : decode cX7_slow 39 = .ok (.invokevirtual 143, 3) := by decide +kernel
theorem dX7_slow_42 : decode cX7_slow 42 = .ok (.iconst 1, 1) := by decide +kernel
theorem dX7_slow_43 : decode cX7_slow 43 = .ok (.ireturn, 1) := by decide +kernel
set_option maxRecDepth 20000 in
theorem ggX7_crossed_X6_tell : GoodIn wsX7_crossed wsX6_tell := goodIn_r _ [6, 7, 8, 9, 10, 11, 21, 22, 23, 24, 25] (by decide +kernel) (by decide +kernel)
set_option maxRecDepth 20000 in
theorem gX7_crossed_X6_tell : GoodIn wsX7_crossed (wsV RX7 144 RX6 yX6_tell wsX6_tell) := goodIn_app (goodIn_of _ (by decide +kernel)) ggX7_crossed_X6_tell
theorem dX7_crossed_0 : decode cX7_crossed 0 = .ok (.aload_n 0, 1) := by decide +kernel
theorem dX7_crossed_1 : decode cX7_crossed 1 = .ok (.getfield 49, 3) := by decide +kernel
theorem dX7_crossed_4 : decode cX7_crossed 4 = .ok (.iload_n 1, 1) := by decide +kernel
theorem dX7_crossed_5 : decode cX7_crossed 5 = .ok (.invokevirtual 144, 3) := by decide +kernel
theorem dX7_crossed_8 : decode cX7_crossed 8 = .ok (.ireturn, 1) := by decide +kernel
set_option maxRecDepth 20000 in
theorem ggX7_many_X7_outputsOn : GoodIn wsX7_many wsX7_outputsOn := goodIn_r _ [9, 10, 2, 11, 12, 13, 14, 15, 16, 17, 18, 19, 20, 21, 22, 23, 24, 25, 26, 39, 40, 41, 42, 43, 44, 45, 46, 47, 54, 55, 56, 57, 58, 59, 60, 61] (by decide +kernel) (by decide +kernel)
set_option maxRecDepth 20000 in
theorem gX7_many_X7_outputsOn : GoodIn wsX7_many (wsV RX7 145 RX7 yX7_outputsOn wsX7_outputsOn) := goodIn_app (goodIn_of _ (by decide +kernel)) ggX7_many_X7_outputsOn
set_option maxRecDepth 20000 in
theorem ggX7_many_X7_catchersReady : GoodIn wsX7_many wsX7_catchersReady := goodIn_r _ [30, 31, 32, 39, 40, 41, 42, 43, 44, 45, 46, 47, 62, 63, 64, 65, 66, 67, 68] (by decide +kernel) (by decide +kernel)
set_option maxRecDepth 20000 in
theorem gX7_many_X7_catchersReady : GoodIn wsX7_many (wsV RX7 151 RX7 yX7_catchersReady wsX7_catchersReady) := goodIn_app (goodIn_of _ (by decide +kernel)) ggX7_many_X7_catchersReady
set_option maxRecDepth 20000 in
theorem ggX7_many_X7_oversOfAll : GoodIn wsX7_many wsX7_oversOfAll := goodIn_r _ [36, 37, 38, 39, 40, 41, 42, 43, 44, 45, 46, 47, 69, 70, 71, 72, 73, 74, 75, 76, 77, 78, 79] (by decide +kernel) (by decide +kernel)
set_option maxRecDepth 20000 in
theorem gX7_many_X7_oversOfAll : GoodIn wsX7_many (wsV RX7 154 RX7 yX7_oversOfAll wsX7_oversOfAll) := goodIn_app (goodIn_of _ (by decide +kernel)) ggX7_many_X7_oversOfAll
theorem dX7_many_0 : decode cX7_many 0 = .ok (.iload_n 1, 1) := by decide +kernel
theorem dX7_many_1 : decode cX7_many 1 = .ok (.tableswitch 80 0 5 #[39, 44, 57, 62, 70, 75], 39) := by decide +kernel
theorem dX7_many_40 : decode cX7_many 40 = .ok (.aload_n 0, 1) := by decide +kernel
theorem dX7_many_41 : decode cX7_many 41 = .ok (.getfield 103, 3) := by decide +kernel
theorem dX7_many_44 : decode cX7_many 44 = .ok (.ireturn, 1) := by decide +kernel
theorem dX7_many_45 : decode cX7_many 45 = .ok (.aload_n 0, 1) := by decide +kernel
theorem dX7_many_46 : decode cX7_many 46 = .ok (.getfield 117, 3) := by decide +kernel
theorem dX7_many_49 : decode cX7_many 49 = .ok (.ifCond .eq 7, 3) := by decide +kernel
theorem dX7_many_52 : decode cX7_many 52 = .ok (.iconst 1, 1) := by decide +kernel
theorem dX7_many_53 : decode cX7_many 53 = .ok (.goto 4, 3) := by decide +kernel
theorem dX7_many_56 : decode cX7_many 56 = .ok (.iconst 0, 1) := by decide +kernel
theorem dX7_many_57 : decode cX7_many 57 = .ok (.ireturn, 1) := by decide +kernel
theorem dX7_many_58 : decode cX7_many 58 = .ok (.aload_n 0, 1) := by decide +kernel
theorem dX7_many_59 : decode cX7_many 59 = .ok (.invokevirtual 145, 3) := by decide +kernel
theorem dX7_many_62 : decode cX7_many 62 = .ok (.ireturn, 1) := by decide +kernel
theorem dX7_many_63 : decode cX7_many 63 = .ok (.aload_n 0, 1) := by decide +kernel
theorem dX7_many_64 : decode cX7_many 64 = .ok (.getfield 42, 3) := by decide +kernel
theorem dX7_many_67 : decode cX7_many 67 = .ok (.getfield 148, 3) := by decide +kernel
theorem dX7_many_70 : decode cX7_many 70 = .ok (.ireturn, 1) := by decide +kernel
theorem dX7_many_71 : decode cX7_many 71 = .ok (.aload_n 0, 1) := by decide +kernel
theorem dX7_many_72 : decode cX7_many 72 = .ok (.invokevirtual 151, 3) := by decide +kernel
theorem dX7_many_75 : decode cX7_many 75 = .ok (.ireturn, 1) := by decide +kernel
theorem dX7_many_76 : decode cX7_many 76 = .ok (.aload_n 0, 1) := by decide +kernel
theorem dX7_many_77 : decode cX7_many 77 = .ok (.invokevirtual 154, 3) := by decide +kernel
theorem dX7_many_80 : decode cX7_many 80 = .ok (.ireturn, 1) := by decide +kernel
theorem dX7_many_81 : decode cX7_many 81 = .ok (.bipush (-2), 2) := by decide +kernel
theorem dX7_many_83 : decode cX7_many 83 = .ok (.ireturn, 1) := by decide +kernel
set_option maxRecDepth 20000 in
theorem ggX7_runTick_X3_look : GoodIn wsX7_runTick wsX3_look := goodIn_r _ [17, 18, 19, 20, 21, 22, 167, 168, 169, 170, 171] (by decide +kernel) (by decide +kernel)
set_option maxRecDepth 20000 in
theorem gX7_runTick_X3_look : GoodIn wsX7_runTick (wsV RX7 160 RX3 yX3_look wsX3_look) := goodIn_app (goodIn_of _ (by decide +kernel)) ggX7_runTick_X3_look
set_option maxRecDepth 20000 in
theorem ggX7_runTick_X7_hasPulse : GoodIn wsX7_runTick wsX7_hasPulse := goodIn_r _ [27, 2, 28, 29, 6, 8, 142, 143, 144, 145, 146, 147, 148, 149, 150, 156, 157, 158, 159, 160, 161, 162, 163, 164, 165, 166, 167, 168, 169, 170, 171] (by decide +kernel) (by decide +kernel)
set_option maxRecDepth 20000 in
theorem gX7_runTick_X7_hasPulse : GoodIn wsX7_runTick (wsV RX7 163 RX7 yX7_hasPulse wsX7_hasPulse) := goodIn_app (goodIn_of _ (by decide +kernel)) ggX7_runTick_X7_hasPulse
set_option maxRecDepth 20000 in
theorem ggX7_runTick_X2_pass : GoodIn wsX7_runTick wsX2_pass := goodIn_r _ [34, 35, 36, 37, 38, 39, 40, 41, 33, 42, 43, 44, 45, 46, 47, 48, 49, 50, 51, 52, 53, 54, 55, 56, 57, 58, 59, 60, 61, 62, 63, 64, 65, 66, 67, 68, 156, 157, 158, 159, 160, 161, 162, 163, 164, 165, 166] (by decide +kernel) (by decide +kernel)
set_option maxRecDepth 20000 in
theorem gX7_runTick_X2_pass : GoodIn wsX7_runTick (wsV RX7 166 RX2 yX2_pass wsX2_pass) := goodIn_app (goodIn_of _ (by decide +kernel)) ggX7_runTick_X2_pass
set_option maxRecDepth 20000 in
theorem ggX7_runTick_X0_notice : GoodIn wsX7_runTick wsX0_notice := goodIn_r _ [73, 74, 75, 76, 77, 78, 79, 172, 173, 174, 175, 176, 177, 178] (by decide +kernel) (by decide +kernel)
set_option maxRecDepth 20000 in
theorem gX7_runTick_X0_notice : GoodIn wsX7_runTick (wsV RX7 174 RX0 yX0_notice wsX0_notice) := goodIn_app (goodIn_of _ (by decide +kernel)) ggX7_runTick_X0_notice
set_option maxRecDepth 20000 in
theorem ggX7_runTick_X1_follow : GoodIn wsX7_runTick wsX1_follow := goodIn_r _ [84, 85, 86, 87, 88, 89, 90, 91, 92, 93, 83, 94, 95, 96, 97, 98, 179, 180, 181, 182, 183, 184, 185, 186, 156, 157, 158, 159, 160, 161, 162, 163, 164, 165, 166] (by decide +kernel) (by decide +kernel)
set_option maxRecDepth 20000 in
theorem gX7_runTick_X1_follow : GoodIn wsX7_runTick (wsV RX7 179 RX1 yX1_follow wsX1_follow) := goodIn_app (goodIn_of _ (by decide +kernel)) ggX7_runTick_X1_follow
set_option maxRecDepth 20000 in
theorem ggX7_runTick_X6_sample : GoodIn wsX7_runTick wsX6_sample := goodIn_r _ [103, 104, 105, 106, 107, 108, 102, 109, 110, 111, 112, 151, 152, 153, 154, 155] (by decide +kernel) (by decide +kernel)
set_option maxRecDepth 20000 in
theorem gX7_runTick_X6_sample : GoodIn wsX7_runTick (wsV RX7 186 RX6 yX6_sample wsX6_sample) := goodIn_app (goodIn_of _ (by decide +kernel)) ggX7_runTick_X6_sample
set_option maxRecDepth 20000 in
theorem ggX7_runTick_X7_workOutPins : GoodIn wsX7_runTick wsX7_workOutPins := goodIn_r _ [116, 117, 10, 118, 1, 119, 120, 121, 83, 122, 123, 124, 125, 126, 127, 128, 98, 86, 129, 85, 130, 131, 132, 133, 134, 135, 136, 137, 138, 139, 140, 141, 88, 89, 90, 142, 143, 144, 145, 146, 147, 148, 149, 150, 179, 180, 181, 182, 183, 184, 185, 186, 187, 188, 189, 190, 191, 192] (by decide +kernel) (by decide +kernel)
set_option maxRecDepth 20000 in
theorem gX7_runTick_X7_workOutPins : GoodIn wsX7_runTick (wsV RX7 107 RX7 yX7_workOutPins wsX7_workOutPins) := goodIn_app (goodIn_of _ (by decide +kernel)) ggX7_runTick_X7_workOutPins
theorem dX7_runTick_0 : decode cX7_runTick 0 = .ok (.aload_n 0, 1) := by decide +kernel
theorem dX7_runTick_1 : decode cX7_runTick 1 = .ok (.dup, 1) := by decide +kernel
theorem dX7_runTick_2 : decode cX7_runTick 2 = .ok (.getfield 103, 3) := by decide +kernel
theorem dX7_runTick_5 : decode cX7_runTick 5 = .ok (.iconst 1, 1) := by decide +kernel
theorem dX7_runTick_6 : decode cX7_runTick 6 = .ok (.iadd, 1) := by decide +kernel
theorem dX7_runTick_7 : decode cX7_runTick 7 = .ok (.putfield 103, 3) := by decide +kernel
theorem dX7_runTick_10 : decode cX7_runTick 10 = .ok (.aload_n 0, 1) := by decide +kernel
theorem dX7_runTick_11 : decode cX7_runTick 11 = .ok (.getfield 11, 3) := by decide +kernel
theorem dX7_runTick_14 : decode cX7_runTick 14 = .ok (.aload_n 0, 1) := by decide +kernel
theorem dX7_runTick_15 : decode cX7_runTick 15 = .ok (.getfield 49, 3) := by decide +kernel
theorem dX7_runTick_18 : decode cX7_runTick 18 = .ok (.getfield 157, 3) := by decide +kernel
theorem dX7_runTick_21 : decode cX7_runTick 21 = .ok (.aaload, 1) := by decide +kernel
theorem dX7_runTick_22 : decode cX7_runTick 22 = .ok (.getfield 77, 3) := by decide +kernel
theorem dX7_runTick_25 : decode cX7_runTick 25 = .ok (.istore_n 1, 1) := by decide +kernel
theorem dX7_runTick_26 : decode cX7_runTick 26 = .ok (.iconst 0, 1) := by decide +kernel
theorem dX7_runTick_27 : decode cX7_runTick 27 = .ok (.istore_n 2, 1) := by decide +kernel
theorem dX7_runTick_28 : decode cX7_runTick 28 = .ok (.iload_n 2, 1) := by decide +kernel
theorem dX7_runTick_29 : decode cX7_runTick 29 = .ok (.iconst 4, 1) := by decide +kernel
theorem dX7_runTick_30 : decode cX7_runTick 30 = .ok (.if_icmp .ge 18, 3) := by decide +kernel
theorem dX7_runTick_33 : decode cX7_runTick 33 = .ok (.aload_n 0, 1) := by decide +kernel
theorem dX7_runTick_34 : decode cX7_runTick 34 = .ok (.getfield 17, 3) := by decide +kernel
theorem dX7_runTick_37 : decode cX7_runTick 37 = .ok (.iload_n 2, 1) := by decide +kernel
theorem dX7_runTick_38 : decode cX7_runTick 38 = .ok (.aaload, 1) := by decide +kernel
theorem dX7_runTick_39 : decode cX7_runTick 39 = .ok (.invokevirtual 160, 3) := by decide +kernel
theorem dX7_runTick_42 : decode cX7_runTick 42 = .ok (.iinc 2 1, 3) := by decide +kernel
theorem dX7_runTick_45 : decode cX7_runTick 45 = .ok (.goto (-17), 3) := by decide +kernel
theorem dX7_runTick_48 : decode cX7_runTick 48 = .ok (.iconst 0, 1) := by decide +kernel
theorem dX7_runTick_49 : decode cX7_runTick 49 = .ok (.istore_n 2, 1) := by decide +kernel
theorem dX7_runTick_50 : decode cX7_runTick 50 = .ok (.iload_n 2, 1) := by decide +kernel
theorem dX7_runTick_51 : decode cX7_runTick 51 = .ok (.iconst 4, 1) := by decide +kernel
theorem dX7_runTick_52 : decode cX7_runTick 52 = .ok (.if_icmp .ge 23, 3) := by decide +kernel
theorem dX7_runTick_55 : decode cX7_runTick 55 = .ok (.aload_n 0, 1) := by decide +kernel
theorem dX7_runTick_56 : decode cX7_runTick 56 = .ok (.getfield 11, 3) := by decide +kernel
theorem dX7_runTick_59 : decode cX7_runTick 59 = .ok (.iload_n 2, 1) := by decide +kernel
theorem dX7_runTick_60 : decode cX7_runTick 60 = .ok (.aaload, 1) := by decide +kernel
theorem dX7_runTick_61 : decode cX7_runTick 61 = .ok (.aload_n 0, 1) := by decide +kernel
theorem dX7_runTick_62 : decode cX7_runTick 62 = .ok (.iload_n 2, 1) := by decide +kernel
theorem dX7_runTick_63 : decode cX7_runTick 63 = .ok (.invokevirtual 163, 3) := by decide +kernel
theorem dX7_runTick_66 : decode cX7_runTick 66 = .ok (.invokevirtual 166, 3) := by decide +kernel
theorem dX7_runTick_69 : decode cX7_runTick 69 = .ok (.iinc 2 1, 3) := by decide +kernel
theorem dX7_runTick_72 : decode cX7_runTick 72 = .ok (.goto (-22), 3) := by decide +kernel
theorem dX7_runTick_75 : decode cX7_runTick 75 = .ok (.iconst 0, 1) := by decide +kernel
theorem dX7_runTick_76 : decode cX7_runTick 76 = .ok (.istore_n 2, 1) := by decide +kernel
theorem dX7_runTick_77 : decode cX7_runTick 77 = .ok (.iload_n 2, 1) := by decide +kernel
theorem dX7_runTick_78 : decode cX7_runTick 78 = .ok (.iconst 4, 1) := by decide +kernel
theorem dX7_runTick_79 : decode cX7_runTick 79 = .ok (.if_icmp .ge 44, 3) := by decide +kernel
theorem dX7_runTick_82 : decode cX7_runTick 82 = .ok (.aload_n 0, 1) := by decide +kernel
theorem dX7_runTick_83 : decode cX7_runTick 83 = .ok (.getfield 23, 3) := by decide +kernel
theorem dX7_runTick_86 : decode cX7_runTick 86 = .ok (.iload_n 2, 1) := by decide +kernel
theorem dX7_runTick_87 : decode cX7_runTick 87 = .ok (.aaload, 1) := by decide +kernel
theorem dX7_runTick_88 : decode cX7_runTick 88 = .ok (.aload_n 0, 1) := by decide +kernel
theorem dX7_runTick_89 : decode cX7_runTick 89 = .ok (.getfield 17, 3) := by decide +kernel
theorem dX7_runTick_92 : decode cX7_runTick 92 = .ok (.iload_n 2, 1) := by decide +kernel
theorem dX7_runTick_93 : decode cX7_runTick 93 = .ok (.aaload, 1) := by decide +kernel
theorem dX7_runTick_94 : decode cX7_runTick 94 = .ok (.getfield 170, 3) := by decide +kernel
theorem dX7_runTick_97 : decode cX7_runTick 97 = .ok (.aload_n 0, 1) := by decide +kernel
theorem dX7_runTick_98 : decode cX7_runTick 98 = .ok (.getfield 11, 3) := by decide +kernel
theorem dX7_runTick_101 : decode cX7_runTick 101 = .ok (.aload_n 0, 1) := by decide +kernel
theorem dX7_runTick_102 : decode cX7_runTick 102 = .ok (.getfield 23, 3) := by decide +kernel
theorem dX7_runTick_105 : decode cX7_runTick 105 = .ok (.iload_n 2, 1) := by decide +kernel
theorem dX7_runTick_106 : decode cX7_runTick 106 = .ok (.aaload, 1) := by decide +kernel
theorem dX7_runTick_107 : decode cX7_runTick 107 = .ok (.getfield 173, 3) := by decide +kernel
theorem dX7_runTick_110 : decode cX7_runTick 110 = .ok (.aaload, 1) := by decide +kernel
theorem dX7_runTick_111 : decode cX7_runTick 111 = .ok (.getfield 77, 3) := by decide +kernel
theorem dX7_runTick_114 : decode cX7_runTick 114 = .ok (.invokevirtual 174, 3) := by decide +kernel
theorem dX7_runTick_117 : decode cX7_runTick 117 = .ok (.iinc 2 1, 3) := by decide +kernel
theorem dX7_runTick_120 : decode cX7_runTick 120 = .ok (.goto (-43), 3) := by decide +kernel
theorem dX7_runTick_123 : decode cX7_runTick 123 = .ok (.iconst 0, 1) := by decide +kernel
theorem dX7_runTick_124 : decode cX7_runTick 124 = .ok (.istore_n 2, 1) := by decide +kernel
theorem dX7_runTick_125 : decode cX7_runTick 125 = .ok (.iload_n 2, 1) := by decide +kernel
theorem dX7_runTick_126 : decode cX7_runTick 126 = .ok (.iconst 4, 1) := by decide +kernel
theorem dX7_runTick_127 : decode cX7_runTick 127 = .ok (.if_icmp .ge 32, 3) := by decide +kernel
theorem dX7_runTick_130 : decode cX7_runTick 130 = .ok (.aload_n 0, 1) := by decide +kernel
theorem dX7_runTick_131 : decode cX7_runTick 131 = .ok (.getfield 29, 3) := by decide +kernel
theorem dX7_runTick_134 : decode cX7_runTick 134 = .ok (.iload_n 2, 1) := by decide +kernel
theorem dX7_runTick_135 : decode cX7_runTick 135 = .ok (.aaload, 1) := by decide +kernel
theorem dX7_runTick_136 : decode cX7_runTick 136 = .ok (.aload_n 0, 1) := by decide +kernel
theorem dX7_runTick_137 : decode cX7_runTick 137 = .ok (.getfield 11, 3) := by decide +kernel
theorem dX7_runTick_140 : decode cX7_runTick 140 = .ok (.aload_n 0, 1) := by decide +kernel
theorem dX7_runTick_141 : decode cX7_runTick 141 = .ok (.getfield 29, 3) := by decide +kernel
theorem dX7_runTick_144 : decode cX7_runTick 144 = .ok (.iload_n 2, 1) := by decide +kernel
theorem dX7_runTick_145 : decode cX7_runTick 145 = .ok (.aaload, 1) := by decide +kernel
theorem dX7_runTick_146 : decode cX7_runTick 146 = .ok (.getfield 178, 3) := by decide +kernel
theorem dX7_runTick_149 : decode cX7_runTick 149 = .ok (.aaload, 1) := by decide +kernel
theorem dX7_runTick_150 : decode cX7_runTick 150 = .ok (.invokevirtual 179, 3) := by decide +kernel
theorem dX7_runTick_153 : decode cX7_runTick 153 = .ok (.iinc 2 1, 3) := by decide +kernel
theorem dX7_runTick_156 : decode cX7_runTick 156 = .ok (.goto (-31), 3) := by decide +kernel
theorem dX7_runTick_159 : decode cX7_runTick 159 = .ok (.aload_n 0, 1) := by decide +kernel
theorem dX7_runTick_160 : decode cX7_runTick 160 = .ok (.getfield 103, 3) := by decide +kernel
theorem dX7_runTick_163 : decode cX7_runTick 163 = .ok (.aload_n 0, 1) := by decide +kernel
theorem dX7_runTick_164 : decode cX7_runTick 164 = .ok (.getfield 49, 3) := by decide +kernel
theorem dX7_runTick_167 : decode cX7_runTick 167 = .ok (.getfield 183, 3) := by decide +kernel
theorem dX7_runTick_170 : decode cX7_runTick 170 = .ok (.irem, 1) := by decide +kernel
theorem dX7_runTick_171 : decode cX7_runTick 171 = .ok (.ifCond .ne 26, 3) := by decide +kernel
theorem dX7_runTick_174 : decode cX7_runTick 174 = .ok (.aload_n 0, 1) := by decide +kernel
theorem dX7_runTick_175 : decode cX7_runTick 175 = .ok (.getfield 49, 3) := by decide +kernel
theorem dX7_runTick_178 : decode cX7_runTick 178 = .ok (.iload_n 1, 1) := by decide +kernel
theorem dX7_runTick_179 : decode cX7_runTick 179 = .ok (.aload_n 0, 1) := by decide +kernel
theorem dX7_runTick_180 : decode cX7_runTick 180 = .ok (.getfield 11, 3) := by decide +kernel
theorem dX7_runTick_183 : decode cX7_runTick 183 = .ok (.aload_n 0, 1) := by decide +kernel
theorem dX7_runTick_184 : decode cX7_runTick 184 = .ok (.getfield 49, 3) := by decide +kernel
theorem dX7_runTick_187 : decode cX7_runTick 187 = .ok (.getfield 157, 3) := by decide +kernel
theorem dX7_runTick_190 : decode cX7_runTick 190 = .ok (.aaload, 1) := by decide +kernel
theorem dX7_runTick_191 : decode cX7_runTick 191 = .ok (.getfield 77, 3) := by decide +kernel
theorem dX7_runTick_194 : decode cX7_runTick 194 = .ok (.invokevirtual 186, 3) := by decide +kernel
theorem dX7_runTick_197 : decode cX7_runTick 197 = .ok (.aload_n 0, 1) := by decide +kernel
theorem dX7_runTick_198 : decode cX7_runTick 198 = .ok (.invokevirtual 107, 3) := by decide +kernel
theorem dX7_runTick_201 : decode cX7_runTick 201 = .ok (.return_, 1) := by decide +kernel
theorem dX7_hasPulse_0 : decode cX7_hasPulse 0 = .ok (.aload_n 0, 1) := by decide +kernel
theorem dX7_hasPulse_1 : decode cX7_hasPulse 1 = .ok (.getfield 11, 3) := by decide +kernel
theorem dX7_hasPulse_4 : decode cX7_hasPulse 4 = .ok (.iload_n 1, 1) := by decide +kernel
theorem dX7_hasPulse_5 : decode cX7_hasPulse 5 = .ok (.aaload, 1) := by decide +kernel
theorem dX7_hasPulse_6 : decode cX7_hasPulse 6 = .ok (.getfield 70, 3) := by decide +kernel
theorem dX7_hasPulse_9 : decode cX7_hasPulse 9 = .ok (.tableswitch 72 1 3 #[27, 29, 53], 27) := by decide +kernel
theorem dX7_hasPulse_36 : decode cX7_hasPulse 36 = .ok (.iconst 1, 1) := by decide +kernel
theorem dX7_hasPulse_37 : decode cX7_hasPulse 37 = .ok (.ireturn, 1) := by decide +kernel
theorem dX7_hasPulse_38 : decode cX7_hasPulse 38 = .ok (.iload_n 1, 1) := by decide +kernel
theorem dX7_hasPulse_39 : decode cX7_hasPulse 39 = .ok (.ifCond .le 21, 3) := by decide +kernel
theorem dX7_hasPulse_42 : decode cX7_hasPulse 42 = .ok (.aload_n 0, 1) := by decide +kernel
theorem dX7_hasPulse_43 : decode cX7_hasPulse 43 = .ok (.getfield 11, 3) := by decide +kernel
theorem dX7_hasPulse_46 : decode cX7_hasPulse 46 = .ok (.iload_n 1, 1) := by decide +kernel
theorem dX7_hasPulse_47 : decode cX7_hasPulse 47 = .ok (.iconst 1, 1) := by decide +kernel
theorem dX7_hasPulse_48 : decode cX7_hasPulse 48 = .ok (.isub, 1) := by decide +kernel
theorem dX7_hasPulse_49 : decode cX7_hasPulse 49 = .ok (.aaload, 1) := by decide +kernel
theorem dX7_hasPulse_50 : decode cX7_hasPulse 50 = .ok (.getfield 189, 3) := by decide +kernel
theorem dX7_hasPulse_53 : decode cX7_hasPulse 53 = .ok (.ifCond .eq 7, 3) := by decide +kernel
theorem dX7_hasPulse_56 : decode cX7_hasPulse 56 = .ok (.iconst 1, 1) := by decide +kernel
theorem dX7_hasPulse_57 : decode cX7_hasPulse 57 = .ok (.goto 4, 3) := by decide +kernel
theorem dX7_hasPulse_60 : decode cX7_hasPulse 60 = .ok (.iconst 0, 1) := by decide +kernel
theorem dX7_hasPulse_61 : decode cX7_hasPulse 61 = .ok (.ireturn, 1) := by decide +kernel
theorem dX7_hasPulse_62 : decode cX7_hasPulse 62 = .ok (.aload_n 0, 1) := by decide +kernel
theorem dX7_hasPulse_63 : decode cX7_hasPulse 63 = .ok (.getfield 17, 3) := by decide +kernel
theorem dX7_hasPulse_66 : decode cX7_hasPulse 66 = .ok (.iload_n 1, 1) := by decide +kernel
theorem dX7_hasPulse_67 : decode cX7_hasPulse 67 = .ok (.aaload, 1) := by decide +kernel
theorem dX7_hasPulse_68 : decode cX7_hasPulse 68 = .ok (.getfield 170, 3) := by decide +kernel
theorem dX7_hasPulse_71 : decode cX7_hasPulse 71 = .ok (.iconst 1, 1) := by decide +kernel
theorem dX7_hasPulse_72 : decode cX7_hasPulse 72 = .ok (.if_icmp .ne 7, 3) := by decide +kernel
theorem dX7_hasPulse_75 : decode cX7_hasPulse 75 = .ok (.iconst 1, 1) := by decide +kernel
theorem dX7_hasPulse_76 : decode cX7_hasPulse 76 = .ok (.goto 4, 3) := by decide +kernel
theorem dX7_hasPulse_79 : decode cX7_hasPulse 79 = .ok (.iconst 0, 1) := by decide +kernel
theorem dX7_hasPulse_80 : decode cX7_hasPulse 80 = .ok (.ireturn, 1) := by decide +kernel
theorem dX7_hasPulse_81 : decode cX7_hasPulse 81 = .ok (.iconst 0, 1) := by decide +kernel
theorem dX7_hasPulse_82 : decode cX7_hasPulse 82 = .ok (.ireturn, 1) := by decide +kernel
set_option maxRecDepth 20000 in
theorem ggX7_workOutPins_X1_pinLevel : GoodIn wsX7_workOutPins wsX1_pinLevel := goodIn_r _ [9, 10, 11, 12, 13, 14, 8, 15, 16, 17, 18, 19, 44, 45, 46, 47, 48, 49, 50, 51] (by decide +kernel) (by decide +kernel)
set_option maxRecDepth 20000 in
theorem gX7_workOutPins_X1_pinLevel : GoodIn wsX7_workOutPins (wsV RX7 192 RX1 yX1_pinLevel wsX1_pinLevel) := goodIn_app (goodIn_of _ (by decide +kernel)) ggX7_workOutPins_X1_pinLevel
set_option maxRecDepth 20000 in
theorem ggX7_workOutPins_X5_drive : GoodIn wsX7_workOutPins wsX5_drive := goodIn_r _ [24, 25, 26, 27, 28, 29, 30, 31, 32, 33, 34, 52, 53, 54, 55, 56, 57] (by decide +kernel) (by decide +kernel)
set_option maxRecDepth 20000 in
theorem gX7_workOutPins_X5_drive : GoodIn wsX7_workOutPins (wsV RX7 195 RX5 yX5_drive wsX5_drive) := goodIn_app (goodIn_of _ (by decide +kernel)) ggX7_workOutPins_X5_drive
theorem dX7_workOutPins_0 : decode cX7_workOutPins 0 = .ok (.iconst 0, 1) := by decide +kernel
theorem dX7_workOutPins_1 : decode cX7_workOutPins 1 = .ok (.istore_n 1, 1) := by decide +kernel
theorem dX7_workOutPins_2 : decode cX7_workOutPins 2 = .ok (.iload_n 1, 1) := by decide +kernel
theorem dX7_workOutPins_3 : decode cX7_workOutPins 3 = .ok (.iconst 4, 1) := by decide +kernel
theorem dX7_workOutPins_4 : decode cX7_workOutPins 4 = .ok (.if_icmp .ge 52, 3) := by decide +kernel
theorem dX7_workOutPins_7 : decode cX7_workOutPins 7 = .ok (.iconst 0, 1) := by decide +kernel
theorem dX7_workOutPins_8 : decode cX7_workOutPins 8 = .ok (.istore_n 2, 1) := by decide +kernel
theorem dX7_workOutPins_9 : decode cX7_workOutPins 9 = .ok (.iload_n 2, 1) := by decide +kernel
theorem dX7_workOutPins_10 : decode cX7_workOutPins 10 = .ok (.iconst 2, 1) := by decide +kernel
theorem dX7_workOutPins_11 : decode cX7_workOutPins 11 = .ok (.if_icmp .ge 39, 3) := by decide +kernel
theorem dX7_workOutPins_14 : decode cX7_workOutPins 14 = .ok (.aload_n 0, 1) := by decide +kernel
theorem dX7_workOutPins_15 : decode cX7_workOutPins 15 = .ok (.getfield 42, 3) := by decide +kernel
theorem dX7_workOutPins_18 : decode cX7_workOutPins 18 = .ok (.iconst 2, 1) := by decide +kernel
theorem dX7_workOutPins_19 : decode cX7_workOutPins 19 = .ok (.iload_n 1, 1) := by decide +kernel
theorem dX7_workOutPins_20 : decode cX7_workOutPins 20 = .ok (.imul, 1) := by decide +kernel
theorem dX7_workOutPins_21 : decode cX7_workOutPins 21 = .ok (.iload_n 2, 1) := by decide +kernel
theorem dX7_workOutPins_22 : decode cX7_workOutPins 22 = .ok (.iadd, 1) := by decide +kernel
theorem dX7_workOutPins_23 : decode cX7_workOutPins 23 = .ok (.aload_n 0, 1) := by decide +kernel
theorem dX7_workOutPins_24 : decode cX7_workOutPins 24 = .ok (.getfield 29, 3) := by decide +kernel
theorem dX7_workOutPins_27 : decode cX7_workOutPins 27 = .ok (.iload_n 1, 1) := by decide +kernel
theorem dX7_workOutPins_28 : decode cX7_workOutPins 28 = .ok (.aaload, 1) := by decide +kernel
theorem dX7_workOutPins_29 : decode cX7_workOutPins 29 = .ok (.iload_n 2, 1) := by decide +kernel
theorem dX7_workOutPins_30 : decode cX7_workOutPins 30 = .ok (.aload_n 0, 1) := by decide +kernel
theorem dX7_workOutPins_31 : decode cX7_workOutPins 31 = .ok (.getfield 117, 3) := by decide +kernel
theorem dX7_workOutPins_34 : decode cX7_workOutPins 34 = .ok (.invokevirtual 192, 3) := by decide +kernel
theorem dX7_workOutPins_37 : decode cX7_workOutPins 37 = .ok (.aload_n 0, 1) := by decide +kernel
theorem dX7_workOutPins_38 : decode cX7_workOutPins 38 = .ok (.getfield 103, 3) := by decide +kernel
theorem dX7_workOutPins_41 : decode cX7_workOutPins 41 = .ok (.invokevirtual 195, 3) := by decide +kernel
theorem dX7_workOutPins_44 : decode cX7_workOutPins 44 = .ok (.iinc 2 1, 3) := by decide +kernel
theorem dX7_workOutPins_47 : decode cX7_workOutPins 47 = .ok (.goto (-38), 3) := by decide +kernel
theorem dX7_workOutPins_50 : decode cX7_workOutPins 50 = .ok (.iinc 1 1, 3) := by decide +kernel
theorem dX7_workOutPins_53 : decode cX7_workOutPins 53 = .ok (.goto (-51), 3) := by decide +kernel
theorem dX7_workOutPins_56 : decode cX7_workOutPins 56 = .ok (.return_, 1) := by decide +kernel
theorem dX7_isWhole_0 : decode cX7_isWhole 0 = .ok (.aload_n 0, 1) := by decide +kernel
theorem dX7_isWhole_1 : decode cX7_isWhole 1 = .ok (.getfield 11, 3) := by decide +kernel
theorem dX7_isWhole_4 : decode cX7_isWhole 4 = .ok (.iconst 2, 1) := by decide +kernel
theorem dX7_isWhole_5 : decode cX7_isWhole 5 = .ok (.iload_n 1, 1) := by decide +kernel
theorem dX7_isWhole_6 : decode cX7_isWhole 6 = .ok (.imul, 1) := by decide +kernel
theorem dX7_isWhole_7 : decode cX7_isWhole 7 = .ok (.aaload, 1) := by decide +kernel
theorem dX7_isWhole_8 : decode cX7_isWhole 8 = .ok (.astore_n 2, 1) := by decide +kernel
theorem dX7_isWhole_9 : decode cX7_isWhole 9 = .ok (.aload_n 0, 1) := by decide +kernel
theorem dX7_isWhole_10 : decode cX7_isWhole 10 = .ok (.getfield 11, 3) := by decide +kernel
theorem dX7_isWhole_13 : decode cX7_isWhole 13 = .ok (.iconst 2, 1) := by decide +kernel
theorem dX7_isWhole_14 : decode cX7_isWhole 14 = .ok (.iload_n 1, 1) := by decide +kernel
theorem dX7_isWhole_15 : decode cX7_isWhole 15 = .ok (.imul, 1) := by decide +kernel
theorem dX7_isWhole_16 : decode cX7_isWhole 16 = .ok (.iconst 1, 1) := by decide +kernel
theorem dX7_isWhole_17 : decode cX7_isWhole 17 = .ok (.iadd, 1) := by decide +kernel
theorem dX7_isWhole_18 : decode cX7_isWhole 18 = .ok (.aaload, 1) := by decide +kernel
theorem dX7_isWhole_19 : decode cX7_isWhole 19 = .ok (.astore_n 3, 1) := by decide +kernel
theorem dX7_isWhole_20 : decode cX7_isWhole 20 = .ok (.aload_n 3, 1) := by decide +kernel
theorem dX7_isWhole_21 : decode cX7_isWhole 21 = .ok (.getfield 70, 3) := by decide +kernel
theorem dX7_isWhole_24 : decode cX7_isWhole 24 = .ok (.iconst 2, 1) := by decide +kernel
theorem dX7_isWhole_25 : decode cX7_isWhole 25 = .ok (.if_icmp .ne 29, 3) := by decide +kernel
theorem dX7_isWhole_28 : decode cX7_isWhole 28 = .ok (.aload_n 3, 1) := by decide +kernel
theorem dX7_isWhole_29 : decode cX7_isWhole 29 = .ok (.getfield 198, 3) := by decide +kernel
theorem dX7_isWhole_32 : decode cX7_isWhole 32 = .ok (.iconst 1, 1) := by decide +kernel
theorem dX7_isWhole_33 : decode cX7_isWhole 33 = .ok (.if_icmp .ne 21, 3) := by decide +kernel
theorem dX7_isWhole_36 : decode cX7_isWhole 36 = .ok (.aload_n 3, 1) := by decide +kernel
theorem dX7_isWhole_37 : decode cX7_isWhole 37 = .ok (.getfield 201, 3) := by decide +kernel
theorem dX7_isWhole_40 : decode cX7_isWhole 40 = .ok (.ifCond .ne 14, 3) := by decide +kernel
theorem dX7_isWhole_43 : decode cX7_isWhole 43 = .ok (.aload_n 2, 1) := by decide +kernel
theorem dX7_isWhole_44 : decode cX7_isWhole 44 = .ok (.getfield 201, 3) := by decide +kernel
theorem dX7_isWhole_47 : decode cX7_isWhole 47 = .ok (.ifCond .ne 7, 3) := by decide +kernel
theorem dX7_isWhole_50 : decode cX7_isWhole 50 = .ok (.iconst 1, 1) := by decide +kernel
theorem dX7_isWhole_51 : decode cX7_isWhole 51 = .ok (.goto 4, 3) := by decide +kernel
theorem dX7_isWhole_54 : decode cX7_isWhole 54 = .ok (.iconst 0, 1) := by decide +kernel
theorem dX7_isWhole_55 : decode cX7_isWhole 55 = .ok (.ireturn, 1) := by decide +kernel
set_option maxRecDepth 20000 in
theorem ggX7_outputsOn_X1_outputsOn : GoodIn wsX7_outputsOn wsX1_outputsOn := goodIn_r _ [7, 8, 9, 10, 11, 28, 29, 30, 31, 32, 33, 34, 35] (by decide +kernel) (by decide +kernel)
set_option maxRecDepth 20000 in
theorem gX7_outputsOn_X1_outputsOn : GoodIn wsX7_outputsOn (wsV RX7 204 RX1 yX1_outputsOn wsX1_outputsOn) := goodIn_app (goodIn_of _ (by decide +kernel)) ggX7_outputsOn_X1_outputsOn
set_option maxRecDepth 20000 in
theorem ggX7_outputsOn_J6_bitCount_0f7a4 : GoodIn wsX7_outputsOn wsJ6_bitCount_0f7a4 := goodIn_r _ [15, 16, 17, 18] (by decide +kernel) (by decide +kernel)
set_option maxRecDepth 20000 in
theorem gX7_outputsOn_J6_bitCount_0f7a4 : GoodIn wsX7_outputsOn (va_wsS RX7 207 yJ6_bitCount_0f7a4 wsJ6_bitCount_0f7a4) := goodIn_app (goodIn_of _ (by decide +kernel)) ggX7_outputsOn_J6_bitCount_0f7a4
theorem dX7_outputsOn_0 : decode cX7_outputsOn 0 = .ok (.iconst 0, 1) := by decide +kernel
theorem dX7_outputsOn_1 : decode cX7_outputsOn 1 = .ok (.istore_n 1, 1) := by decide +kernel
theorem dX7_outputsOn_2 : decode cX7_outputsOn 2 = .ok (.iconst 0, 1) := by decide +kernel
theorem dX7_outputsOn_3 : decode cX7_outputsOn 3 = .ok (.istore_n 2, 1) := by decide +kernel
theorem dX7_outputsOn_4 : decode cX7_outputsOn 4 = .ok (.iload_n 2, 1) := by decide +kernel
theorem dX7_outputsOn_5 : decode cX7_outputsOn 5 = .ok (.iconst 4, 1) := by decide +kernel
theorem dX7_outputsOn_6 : decode cX7_outputsOn 6 = .ok (.if_icmp .ge 28, 3) := by decide +kernel
theorem dX7_outputsOn_9 : decode cX7_outputsOn 9 = .ok (.iload_n 1, 1) := by decide +kernel
theorem dX7_outputsOn_10 : decode cX7_outputsOn 10 = .ok (.aload_n 0, 1) := by decide +kernel
theorem dX7_outputsOn_11 : decode cX7_outputsOn 11 = .ok (.getfield 29, 3) := by decide +kernel
theorem dX7_outputsOn_14 : decode cX7_outputsOn 14 = .ok (.iload_n 2, 1) := by decide +kernel
theorem dX7_outputsOn_15 : decode cX7_outputsOn 15 = .ok (.aaload, 1) := by decide +kernel
theorem dX7_outputsOn_16 : decode cX7_outputsOn 16 = .ok (.aload_n 0, 1) := by decide +kernel
theorem dX7_outputsOn_17 : decode cX7_outputsOn 17 = .ok (.getfield 117, 3) := by decide +kernel
theorem dX7_outputsOn_20 : decode cX7_outputsOn 20 = .ok (.invokevirtual 204, 3) := by decide +kernel
theorem dX7_outputsOn_23 : decode cX7_outputsOn 23 = .ok (.invokestatic 207, 3) := by decide +kernel
theorem dX7_outputsOn_26 : decode cX7_outputsOn 26 = .ok (.iadd, 1) := by decide +kernel
theorem dX7_outputsOn_27 : decode cX7_outputsOn 27 = .ok (.istore_n 1, 1) := by decide +kernel
theorem dX7_outputsOn_28 : decode cX7_outputsOn 28 = .ok (.iinc 2 1, 3) := by decide +kernel
theorem dX7_outputsOn_31 : decode cX7_outputsOn 31 = .ok (.goto (-27), 3) := by decide +kernel
theorem dX7_outputsOn_34 : decode cX7_outputsOn 34 = .ok (.iload_n 1, 1) := by decide +kernel
theorem dX7_outputsOn_35 : decode cX7_outputsOn 35 = .ok (.ireturn, 1) := by decide +kernel
theorem dX7_catchersReady_0 : decode cX7_catchersReady 0 = .ok (.iconst 0, 1) := by decide +kernel
theorem dX7_catchersReady_1 : decode cX7_catchersReady 1 = .ok (.istore_n 1, 1) := by decide +kernel
theorem dX7_catchersReady_2 : decode cX7_catchersReady 2 = .ok (.iconst 0, 1) := by decide +kernel
theorem dX7_catchersReady_3 : decode cX7_catchersReady 3 = .ok (.istore_n 2, 1) := by decide +kernel
theorem dX7_catchersReady_4 : decode cX7_catchersReady 4 = .ok (.iload_n 2, 1) := by decide +kernel
theorem dX7_catchersReady_5 : decode cX7_catchersReady 5 = .ok (.iconst 4, 1) := by decide +kernel
theorem dX7_catchersReady_6 : decode cX7_catchersReady 6 = .ok (.if_icmp .ge 21, 3) := by decide +kernel
theorem dX7_catchersReady_9 : decode cX7_catchersReady 9 = .ok (.iload_n 1, 1) := by decide +kernel
theorem dX7_catchersReady_10 : decode cX7_catchersReady 10 = .ok (.aload_n 0, 1) := by decide +kernel
theorem dX7_catchersReady_11 : decode cX7_catchersReady 11 = .ok (.getfield 23, 3) := by decide +kernel
theorem dX7_catchersReady_14 : decode cX7_catchersReady 14 = .ok (.iload_n 2, 1) := by decide +kernel
theorem dX7_catchersReady_15 : decode cX7_catchersReady 15 = .ok (.aaload, 1) := by decide +kernel
theorem dX7_catchersReady_16 : decode cX7_catchersReady 16 = .ok (.getfield 212, 3) := by decide +kernel
theorem dX7_catchersReady_19 : decode cX7_catchersReady 19 = .ok (.iadd, 1) := by decide +kernel
theorem dX7_catchersReady_20 : decode cX7_catchersReady 20 = .ok (.istore_n 1, 1) := by decide +kernel
theorem dX7_catchersReady_21 : decode cX7_catchersReady 21 = .ok (.iinc 2 1, 3) := by decide +kernel
theorem dX7_catchersReady_24 : decode cX7_catchersReady 24 = .ok (.goto (-20), 3) := by decide +kernel
theorem dX7_catchersReady_27 : decode cX7_catchersReady 27 = .ok (.iload_n 1, 1) := by decide +kernel
theorem dX7_catchersReady_28 : decode cX7_catchersReady 28 = .ok (.ireturn, 1) := by decide +kernel
theorem dX7_oversOfAll_0 : decode cX7_oversOfAll 0 = .ok (.iconst 0, 1) := by decide +kernel
theorem dX7_oversOfAll_1 : decode cX7_oversOfAll 1 = .ok (.istore_n 1, 1) := by decide +kernel
theorem dX7_oversOfAll_2 : decode cX7_oversOfAll 2 = .ok (.iconst 0, 1) := by decide +kernel
theorem dX7_oversOfAll_3 : decode cX7_oversOfAll 3 = .ok (.istore_n 2, 1) := by decide +kernel
theorem dX7_oversOfAll_4 : decode cX7_oversOfAll 4 = .ok (.iload_n 2, 1) := by decide +kernel
theorem dX7_oversOfAll_5 : decode cX7_oversOfAll 5 = .ok (.iconst 4, 1) := by decide +kernel
theorem dX7_oversOfAll_6 : decode cX7_oversOfAll 6 = .ok (.if_icmp .ge 21, 3) := by decide +kernel
theorem dX7_oversOfAll_9 : decode cX7_oversOfAll 9 = .ok (.iload_n 1, 1) := by decide +kernel
theorem dX7_oversOfAll_10 : decode cX7_oversOfAll 10 = .ok (.aload_n 0, 1) := by decide +kernel
theorem dX7_oversOfAll_11 : decode cX7_oversOfAll 11 = .ok (.getfield 11, 3) := by decide +kernel
theorem dX7_oversOfAll_14 : decode cX7_oversOfAll 14 = .ok (.iload_n 2, 1) := by decide +kernel
theorem dX7_oversOfAll_15 : decode cX7_oversOfAll 15 = .ok (.aaload, 1) := by decide +kernel
theorem dX7_oversOfAll_16 : decode cX7_oversOfAll 16 = .ok (.getfield 215, 3) := by decide +kernel
theorem dX7_oversOfAll_19 : decode cX7_oversOfAll 19 = .ok (.iadd, 1) := by decide +kernel
theorem dX7_oversOfAll_20 : decode cX7_oversOfAll 20 = .ok (.istore_n 1, 1) := by decide +kernel
theorem dX7_oversOfAll_21 : decode cX7_oversOfAll 21 = .ok (.iinc 2 1, 3) := by decide +kernel
theorem dX7_oversOfAll_24 : decode cX7_oversOfAll 24 = .ok (.goto (-20), 3) := by decide +kernel
theorem dX7_oversOfAll_27 : decode cX7_oversOfAll 27 = .ok (.iload_n 1, 1) := by decide +kernel
theorem dX7_oversOfAll_28 : decode cX7_oversOfAll 28 = .ok (.ireturn, 1) := by decide +kernel
theorem dX7_isOneOf_0 : decode cX7_isOneOf 0 = .ok (.iload_n 1, 1) := by decide +kernel
theorem dX7_isOneOf_1 : decode cX7_isOneOf 1 = .ok (.ifCond .lt 12, 3) := by decide +kernel
theorem dX7_isOneOf_4 : decode cX7_isOneOf 4 = .ok (.iload_n 1, 1) := by decide +kernel
theorem dX7_isOneOf_5 : decode cX7_isOneOf 5 = .ok (.iload_n 0, 1) := by decide +kernel
theorem dX7_isOneOf_6 : decode cX7_isOneOf 6 = .ok (.if_icmp .ge 7, 3) := by decide +kernel
theorem dX7_isOneOf_9 : decode cX7_isOneOf 9 = .ok (.iconst 1, 1) := by decide +kernel
theorem dX7_isOneOf_10 : decode cX7_isOneOf 10 = .ok (.goto 4, 3) := by decide +kernel
theorem dX7_isOneOf_13 : decode cX7_isOneOf 13 = .ok (.iconst 0, 1) := by decide +kernel
theorem dX7_isOneOf_14 : decode cX7_isOneOf 14 = .ok (.ireturn, 1) := by decide +kernel
theorem dX7_within_0 : decode cX7_within 0 = .ok (.iload_n 0, 1) := by decide +kernel
theorem dX7_within_1 : decode cX7_within 1 = .ok (.iload_n 1, 1) := by decide +kernel
theorem dX7_within_2 : decode cX7_within 2 = .ok (.if_icmp .lt 12, 3) := by decide +kernel
theorem dX7_within_5 : decode cX7_within 5 = .ok (.iload_n 0, 1) := by decide +kernel
theorem dX7_within_6 : decode cX7_within 6 = .ok (.iload_n 2, 1) := by decide +kernel
theorem dX7_within_7 : decode cX7_within 7 = .ok (.if_icmp .gt 7, 3) := by decide +kernel
theorem dX7_within_10 : decode cX7_within 10 = .ok (.iconst 1, 1) := by decide +kernel
theorem dX7_within_11 : decode cX7_within 11 = .ok (.goto 4, 3) := by decide +kernel
theorem dX7_within_14 : decode cX7_within 14 = .ok (.iconst 0, 1) := by decide +kernel
theorem dX7_within_15 : decode cX7_within 15 = .ok (.ireturn, 1) := by decide +kernel
set_option maxRecDepth 20000 in
theorem ggX7_isSetOfOutputs_X7_within : GoodIn wsX7_isSetOfOutputs wsX7_within := goodIn_r _ [4] (by decide +kernel) (by decide +kernel)
set_option maxRecDepth 20000 in
theorem gX7_isSetOfOutputs_X7_within : GoodIn wsX7_isSetOfOutputs (va_wsS RX7 62 yX7_within wsX7_within) := goodIn_app (goodIn_of _ (by decide +kernel)) ggX7_isSetOfOutputs_X7_within
theorem dX7_isSetOfOutputs_0 : decode cX7_isSetOfOutputs 0 = .ok (.iload_n 0, 1) := by decide +kernel
end
section
theorem dX7_isSetOfOutputs_1 : decode cX7_isSetOfOutputs 1 = .ok (.iconst 0, 1) := by decide +kernel
theorem dX7_isSetOfOutputs_2 : decode cX7_isSetOfOutputs 2 = .ok (.iconst 3, 1) := by decide +kernel
theorem dX7_isSetOfOutputs_3 : decode cX7_isSetOfOutputs 3 = .ok (.invokestatic 62, 3) := by decide +kernel
theorem dX7_isSetOfOutputs_6 : decode cX7_isSetOfOutputs 6 = .ok (.ireturn, 1) := by decide +kernel
theorem dX8_init_0 : decode cX8_init 0 = .ok (.aload_n 0, 1) := by decide +kernel
theorem dX8_init_1 : decode cX8_init 1 = .ok (.invokespecial 1, 3) := by decide +kernel
theorem dX8_init_4 : decode cX8_init 4 = .ok (.aload_n 0, 1) := by decide +kernel
theorem dX8_init_5 : decode cX8_init 5 = .ok (.iconst 4, 1) := by decide +kernel
theorem dX8_init_6 : decode cX8_init 6 = .ok (.newarray .int, 2) := by decide +kernel
theorem dX8_init_8 : decode cX8_init 8 = .ok (.putfield 7, 3) := by decide +kernel
theorem dX8_init_11 : decode cX8_init 11 = .ok (.aload_n 0, 1) := by decide +kernel
theorem dX8_init_12 : decode cX8_init 12 = .ok (.iconst 4, 1) := by decide +kernel
theorem dX8_init_13 : decode cX8_init 13 = .ok (.newarray .int, 2) := by decide +kernel
theorem dX8_init_15 : decode cX8_init 15 = .ok (.putfield 13, 3) := by decide +kernel
theorem dX8_init_18 : decode cX8_init 18 = .ok (.aload_n 0, 1) := by decide +kernel
theorem dX8_init_19 : decode cX8_init 19 = .ok (.iconst 4, 1) := by decide +kernel
theorem dX8_init_20 : decode cX8_init 20 = .ok (.newarray .int, 2) := by decide +kernel
theorem dX8_init_22 : decode cX8_init 22 = .ok (.putfield 16, 3) := by decide +kernel
theorem dX8_init_25 : decode cX8_init 25 = .ok (.aload_n 0, 1) := by decide +kernel
theorem dX8_init_26 : decode cX8_init 26 = .ok (.iconst 4, 1) := by decide +kernel
theorem dX8_init_27 : decode cX8_init 27 = .ok (.newarray .int, 2) := by decide +kernel
theorem dX8_init_29 : decode cX8_init 29 = .ok (.putfield 19, 3) := by decide +kernel
theorem dX8_init_32 : decode cX8_init 32 = .ok (.aload_n 0, 1) := by decide +kernel
theorem dX8_init_33 : decode cX8_init 33 = .ok (.iconst 4, 1) := by decide +kernel
theorem dX8_init_34 : decode cX8_init 34 = .ok (.newarray .int, 2) := by decide +kernel
theorem dX8_init_36 : decode cX8_init 36 = .ok (.putfield 22, 3) := by decide +kernel
theorem dX8_init_39 : decode cX8_init 39 = .ok (.aload_n 0, 1) := by decide +kernel
theorem dX8_init_40 : decode cX8_init 40 = .ok (.iconst 4, 1) := by decide +kernel
theorem dX8_init_41 : decode cX8_init 41 = .ok (.newarray .int, 2) := by decide +kernel
theorem dX8_init_43 : decode cX8_init 43 = .ok (.putfield 25, 3) := by decide +kernel
theorem dX8_init_46 : decode cX8_init 46 = .ok (.aload_n 0, 1) := by decide +kernel
theorem dX8_init_47 : decode cX8_init 47 = .ok (.iconst 4, 1) := by decide +kernel
theorem dX8_init_48 : decode cX8_init 48 = .ok (.newarray .int, 2) := by decide +kernel
theorem dX8_init_50 : decode cX8_init 50 = .ok (.putfield 28, 3) := by decide +kernel
theorem dX8_init_53 : decode cX8_init 53 = .ok (.aload_n 0, 1) := by decide +kernel
theorem dX8_init_54 : decode cX8_init 54 = .ok (.iconst 4, 1) := by decide +kernel
theorem dX8_init_55 : decode cX8_init 55 = .ok (.newarray .int, 2) := by decide +kernel
theorem dX8_init_57 : decode cX8_init 57 = .ok (.putfield 31, 3) := by decide +kernel
theorem dX8_init_60 : decode cX8_init 60 = .ok (.aload_n 0, 1) := by decide +kernel
theorem dX8_init_61 : decode cX8_init 61 = .ok (.iconst 4, 1) := by decide +kernel
theorem dX8_init_62 : decode cX8_init 62 = .ok (.newarray .int, 2) := by decide +kernel
theorem dX8_init_64 : decode cX8_init 64 = .ok (.putfield 34, 3) := by decide +kernel
theorem dX8_init_67 : decode cX8_init 67 = .ok (.aload_n 0, 1) := by decide +kernel
theorem dX8_init_68 : decode cX8_init 68 = .ok (.iconst 4, 1) := by decide +kernel
theorem dX8_init_69 : decode cX8_init 69 = .ok (.newarray .boolean, 2) := by decide +kernel
theorem dX8_init_71 : decode cX8_init 71 = .ok (.putfield 37, 3) := by decide +kernel
theorem dX8_init_74 : decode cX8_init 74 = .ok (.aload_n 0, 1) := by decide +kernel
theorem dX8_init_75 : decode cX8_init 75 = .ok (.iconst 4, 1) := by decide +kernel
theorem dX8_init_76 : decode cX8_init 76 = .ok (.newarray .boolean, 2) := by decide +kernel
theorem dX8_init_78 : decode cX8_init 78 = .ok (.putfield 41, 3) := by decide +kernel
theorem dX8_init_81 : decode cX8_init 81 = .ok (.aload_n 0, 1) := by decide +kernel
theorem dX8_init_82 : decode cX8_init 82 = .ok (.iconst 4, 1) := by decide +kernel
theorem dX8_init_83 : decode cX8_init 83 = .ok (.newarray .int, 2) := by decide +kernel
theorem dX8_init_85 : decode cX8_init 85 = .ok (.putfield 44, 3) := by decide +kernel
theorem dX8_init_88 : decode cX8_init 88 = .ok (.aload_n 0, 1) := by decide +kernel
theorem dX8_init_89 : decode cX8_init 89 = .ok (.iconst 4, 1) := by decide +kernel
theorem dX8_init_90 : decode cX8_init 90 = .ok (.newarray .int, 2) := by decide +kernel
theorem dX8_init_92 : decode cX8_init 92 = .ok (.putfield 47, 3) := by decide +kernel
theorem dX8_init_95 : decode cX8_init 95 = .ok (.aload_n 0, 1) := by decide +kernel
theorem dX8_init_96 : decode cX8_init 96 = .ok (.iconst 4, 1) := by decide +kernel
theorem dX8_init_97 : decode cX8_init 97 = .ok (.newarray .int, 2) := by decide +kernel
theorem dX8_init_99 : decode cX8_init 99 = .ok (.putfield 50, 3) := by decide +kernel
theorem dX8_init_102 : decode cX8_init 102 = .ok (.aload_n 0, 1) := by decide +kernel
theorem dX8_init_103 : decode cX8_init 103 = .ok (.iconst 4, 1) := by decide +kernel
theorem dX8_init_104 : decode cX8_init 104 = .ok (.newarray .int, 2) := by decide +kernel
theorem dX8_init_106 : decode cX8_init 106 = .ok (.putfield 53, 3) := by decide +kernel
theorem dX8_init_109 : decode cX8_init 109 = .ok (.aload_n 0, 1) := by decide +kernel
theorem dX8_init_110 : decode cX8_init 110 = .ok (.iconst 4, 1) := by decide +kernel
theorem dX8_init_111 : decode cX8_init 111 = .ok (.newarray .int, 2) := by decide +kernel
theorem dX8_init_113 : decode cX8_init 113 = .ok (.putfield 56, 3) := by decide +kernel
theorem dX8_init_116 : decode cX8_init 116 = .ok (.aload_n 0, 1) := by decide +kernel
theorem dX8_init_117 : decode cX8_init 117 = .ok (.iconst 4, 1) := by decide +kernel
theorem dX8_init_118 : decode cX8_init 118 = .ok (.newarray .int, 2) := by decide +kernel
theorem dX8_init_120 : decode cX8_init 120 = .ok (.putfield 59, 3) := by decide +kernel
theorem dX8_init_123 : decode cX8_init 123 = .ok (.aload_n 0, 1) := by decide +kernel
theorem dX8_init_124 : decode cX8_init 124 = .ok (.iconst 4, 1) := by decide +kernel
theorem dX8_init_125 : decode cX8_init 125 = .ok (.newarray .int, 2) := by decide +kernel
theorem dX8_init_127 : decode cX8_init 127 = .ok (.putfield 62, 3) := by decide +kernel
theorem dX8_init_130 : decode cX8_init 130 = .ok (.aload_n 0, 1) := by decide +kernel
theorem dX8_init_131 : decode cX8_init 131 = .ok (.iconst 4, 1) := by decide +kernel
theorem dX8_init_132 : decode cX8_init 132 = .ok (.newarray .int, 2) := by decide +kernel
theorem dX8_init_134 : decode cX8_init 134 = .ok (.putfield 65, 3) := by decide +kernel
theorem dX8_init_137 : decode cX8_init 137 = .ok (.aload_n 0, 1) := by decide +kernel
theorem dX8_init_138 : decode cX8_init 138 = .ok (.iconst 4, 1) := by decide +kernel
theorem dX8_init_139 : decode cX8_init 139 = .ok (.newarray .int, 2) := by decide +kernel
theorem dX8_init_141 : decode cX8_init 141 = .ok (.putfield 68, 3) := by decide +kernel
theorem dX8_init_144 : decode cX8_init 144 = .ok (.aload_n 0, 1) := by decide +kernel
theorem dX8_init_145 : decode cX8_init 145 = .ok (.iconst 4, 1) := by decide +kernel
theorem dX8_init_146 : decode cX8_init 146 = .ok (.newarray .int, 2) := by decide +kernel
theorem dX8_init_148 : decode cX8_init 148 = .ok (.putfield 71, 3) := by decide +kernel
theorem dX8_init_151 : decode cX8_init 151 = .ok (.aload_n 0, 1) := by decide +kernel
theorem dX8_init_152 : decode cX8_init 152 = .ok (.iconst 4, 1) := by decide +kernel
theorem dX8_init_153 : decode cX8_init 153 = .ok (.newarray .int, 2) := by decide +kernel
theorem dX8_init_155 : decode cX8_init 155 = .ok (.putfield 74, 3) := by decide +kernel
theorem dX8_init_158 : decode cX8_init 158 = .ok (.aload_n 0, 1) := by decide +kernel
theorem dX8_init_159 : decode cX8_init 159 = .ok (.iconst 4, 1) := by decide +kernel
theorem dX8_init_160 : decode cX8_init 160 = .ok (.newarray .int, 2) := by decide +kernel
theorem dX8_init_162 : decode cX8_init 162 = .ok (.putfield 77, 3) := by decide +kernel
theorem dX8_init_165 : decode cX8_init 165 = .ok (.aload_n 0, 1) := by decide +kernel
theorem dX8_init_166 : decode cX8_init 166 = .ok (.iconst 4, 1) := by decide +kernel
theorem dX8_init_167 : decode cX8_init 167 = .ok (.newarray .int, 2) := by decide +kernel
theorem dX8_init_169 : decode cX8_init 169 = .ok (.putfield 80, 3) := by decide +kernel
theorem dX8_init_172 : decode cX8_init 172 = .ok (.aload_n 0, 1) := by decide +kernel
theorem dX8_init_173 : decode cX8_init 173 = .ok (.iconst 4, 1) := by decide +kernel
theorem dX8_init_174 : decode cX8_init 174 = .ok (.newarray .int, 2) := by decide +kernel
theorem dX8_init_176 : decode cX8_init 176 = .ok (.putfield 83, 3) := by decide +kernel
theorem dX8_init_179 : decode cX8_init 179 = .ok (.aload_n 0, 1) := by decide +kernel
theorem dX8_init_180 : decode cX8_init 180 = .ok (.iconst 4, 1) := by decide +kernel
theorem dX8_init_181 : decode cX8_init 181 = .ok (.newarray .int, 2) := by decide +kernel
theorem dX8_init_183 : decode cX8_init 183 = .ok (.putfield 86, 3) := by decide +kernel
theorem dX8_init_186 : decode cX8_init 186 = .ok (.aload_n 0, 1) := by decide +kernel
theorem dX8_init_187 : decode cX8_init 187 = .ok (.iconst 4, 1) := by decide +kernel
theorem dX8_init_188 : decode cX8_init 188 = .ok (.newarray .int, 2) := by decide +kernel
theorem dX8_init_190 : decode cX8_init 190 = .ok (.putfield 89, 3) := by decide +kernel
theorem dX8_init_193 : decode cX8_init 193 = .ok (.aload_n 0, 1) := by decide +kernel
theorem dX8_init_194 : decode cX8_init 194 = .ok (.iconst 4, 1) := by decide +kernel
theorem dX8_init_195 : decode cX8_init 195 = .ok (.newarray .int, 2) := by decide +kernel
theorem dX8_init_197 : decode cX8_init 197 = .ok (.putfield 92, 3) := by decide +kernel
theorem dX8_init_200 : decode cX8_init 200 = .ok (.aload_n 0, 1) := by decide +kernel
theorem dX8_init_201 : decode cX8_init 201 = .ok (.iconst 4, 1) := by decide +kernel
theorem dX8_init_202 : decode cX8_init 202 = .ok (.newarray .int, 2) := by decide +kernel
theorem dX8_init_204 : decode cX8_init 204 = .ok (.putfield 95, 3) := by decide +kernel
theorem dX8_init_207 : decode cX8_init 207 = .ok (.aload_n 0, 1) := by decide +kernel
theorem dX8_init_208 : decode cX8_init 208 = .ok (.iconst 4, 1) := by decide +kernel
theorem dX8_init_209 : decode cX8_init 209 = .ok (.newarray .int, 2) := by decide +kernel
theorem dX8_init_211 : decode cX8_init 211 = .ok (.putfield 98, 3) := by decide +kernel
theorem dX8_init_214 : decode cX8_init 214 = .ok (.aload_n 0, 1) := by decide +kernel
theorem dX8_init_215 : decode cX8_init 215 = .ok (.iconst 4, 1) := by decide +kernel
theorem dX8_init_216 : decode cX8_init 216 = .ok (.newarray .int, 2) := by decide +kernel
theorem dX8_init_218 : decode cX8_init 218 = .ok (.putfield 101, 3) := by decide +kernel
theorem dX8_init_221 : decode cX8_init 221 = .ok (.aload_n 0, 1) := by decide +kernel
theorem dX8_init_222 : decode cX8_init 222 = .ok (.bipush 8, 2) := by decide +kernel
theorem dX8_init_224 : decode cX8_init 224 = .ok (.newarray .int, 2) := by decide +kernel
theorem dX8_init_226 : decode cX8_init 226 = .ok (.putfield 104, 3) := by decide +kernel
theorem dX8_init_229 : decode cX8_init 229 = .ok (.aload_n 0, 1) := by decide +kernel
theorem dX8_init_230 : decode cX8_init 230 = .ok (.bipush 24, 2) := by decide +kernel
theorem dX8_init_232 : decode cX8_init 232 = .ok (.newarray .int, 2) := by decide +kernel
theorem dX8_init_234 : decode cX8_init 234 = .ok (.putfield 107, 3) := by decide +kernel
theorem dX8_init_237 : decode cX8_init 237 = .ok (.aload_n 0, 1) := by decide +kernel
theorem dX8_init_238 : decode cX8_init 238 = .ok (.bipush 24, 2) := by decide +kernel
theorem dX8_init_240 : decode cX8_init 240 = .ok (.newarray .int, 2) := by decide +kernel
theorem dX8_init_242 : decode cX8_init 242 = .ok (.putfield 110, 3) := by decide +kernel
theorem dX8_init_245 : decode cX8_init 245 = .ok (.aload_n 0, 1) := by decide +kernel
theorem dX8_init_246 : decode cX8_init 246 = .ok (.bipush 24, 2) := by decide +kernel
theorem dX8_init_248 : decode cX8_init 248 = .ok (.newarray .int, 2) := by decide +kernel
theorem dX8_init_250 : decode cX8_init 250 = .ok (.putfield 113, 3) := by decide +kernel
theorem dX8_init_253 : decode cX8_init 253 = .ok (.aload_n 0, 1) := by decide +kernel
theorem dX8_init_254 : decode cX8_init 254 = .ok (.iconst 2, 1) := by decide +kernel
theorem dX8_init_255 : decode cX8_init 255 = .ok (.newarray .boolean, 2) := by decide +kernel
theorem dX8_init_257 : decode cX8_init 257 = .ok (.putfield 116, 3) := by decide +kernel
theorem dX8_init_260 : decode cX8_init 260 = .ok (.aload_n 0, 1) := by decide +kernel
theorem dX8_init_261 : decode cX8_init 261 = .ok (.iconst 2, 1) := by decide +kernel
theorem dX8_init_262 : decode cX8_init 262 = .ok (.newarray .int, 2) := by decide +kernel
theorem dX8_init_264 : decode cX8_init 264 = .ok (.putfield 119, 3) := by decide +kernel
theorem dX8_init_267 : decode cX8_init 267 = .ok (.aload_n 0, 1) := by decide +kernel
theorem dX8_init_268 : decode cX8_init 268 = .ok (.iconst 4, 1) := by decide +kernel
theorem dX8_init_269 : decode cX8_init 269 = .ok (.putfield 122, 3) := by decide +kernel
theorem dX8_init_272 : decode cX8_init 272 = .ok (.iconst 0, 1) := by decide +kernel
theorem dX8_init_273 : decode cX8_init 273 = .ok (.istore_n 1, 1) := by decide +kernel
theorem dX8_init_274 : decode cX8_init 274 = .ok (.iload_n 1, 1) := by decide +kernel
theorem dX8_init_275 : decode cX8_init 275 = .ok (.iconst 4, 1) := by decide +kernel
theorem dX8_init_276 : decode cX8_init 276 = .ok (.if_icmp .ge 53, 3) := by decide +kernel
theorem dX8_init_279 : decode cX8_init 279 = .ok (.aload_n 0, 1) := by decide +kernel
theorem dX8_init_280 : decode cX8_init 280 = .ok (.getfield 13, 3) := by decide +kernel
theorem dX8_init_283 : decode cX8_init 283 = .ok (.iload_n 1, 1) := by decide +kernel
theorem dX8_init_284 : decode cX8_init 284 = .ok (.bipush 99, 2) := by decide +kernel
theorem dX8_init_286 : decode cX8_init 286 = .ok (.iastore, 1) := by decide +kernel
theorem dX8_init_287 : decode cX8_init 287 = .ok (.aload_n 0, 1) := by decide +kernel
theorem dX8_init_288 : decode cX8_init 288 = .ok (.getfield 16, 3) := by decide +kernel
theorem dX8_init_291 : decode cX8_init 291 = .ok (.iload_n 1, 1) := by decide +kernel
theorem dX8_init_292 : decode cX8_init 292 = .ok (.iconst 1, 1) := by decide +kernel
theorem dX8_init_293 : decode cX8_init 293 = .ok (.iastore, 1) := by decide +kernel
theorem dX8_init_294 : decode cX8_init 294 = .ok (.aload_n 0, 1) := by decide +kernel
theorem dX8_init_295 : decode cX8_init 295 = .ok (.getfield 28, 3) := by decide +kernel
theorem dX8_init_298 : decode cX8_init 298 = .ok (.iload_n 1, 1) := by decide +kernel
theorem dX8_init_299 : decode cX8_init 299 = .ok (.iconst 1, 1) := by decide +kernel
theorem dX8_init_300 : decode cX8_init 300 = .ok (.iastore, 1) := by decide +kernel
theorem dX8_init_301 : decode cX8_init 301 = .ok (.aload_n 0, 1) := by decide +kernel
theorem dX8_init_302 : decode cX8_init 302 = .ok (.getfield 34, 3) := by decide +kernel
theorem dX8_init_305 : decode cX8_init 305 = .ok (.iload_n 1, 1) := by decide +kernel
theorem dX8_init_306 : decode cX8_init 306 = .ok (.bipush (-9), 2) := by decide +kernel
theorem dX8_init_308 : decode cX8_init 308 = .ok (.iastore, 1) := by decide +kernel
theorem dX8_init_309 : decode cX8_init 309 = .ok (.aload_n 0, 1) := by decide +kernel
theorem dX8_init_310 : decode cX8_init 310 = .ok (.getfield 50, 3) := by decide +kernel
theorem dX8_init_313 : decode cX8_init 313 = .ok (.iload_n 1, 1) := by decide +kernel
theorem dX8_init_314 : decode cX8_init 314 = .ok (.iconst 1, 1) := by decide +kernel
theorem dX8_init_315 : decode cX8_init 315 = .ok (.iastore, 1) := by decide +kernel
theorem dX8_init_316 : decode cX8_init 316 = .ok (.aload_n 0, 1) := by decide +kernel
theorem dX8_init_317 : decode cX8_init 317 = .ok (.getfield 65, 3) := by decide +kernel
theorem dX8_init_320 : decode cX8_init 320 = .ok (.iload_n 1, 1) := by decide +kernel
theorem dX8_init_321 : decode cX8_init 321 = .ok (.iconst 1, 1) := by decide +kernel
theorem dX8_init_322 : decode cX8_init 322 = .ok (.iastore, 1) := by decide +kernel
theorem dX8_init_323 : decode cX8_init 323 = .ok (.iinc 1 1, 3) := by decide +kernel
theorem dX8_init_326 : decode cX8_init 326 = .ok (.goto (-52), 3) := by decide +kernel
theorem dX8_init_329 : decode cX8_init 329 = .ok (.aload_n 0, 1) := by decide +kernel
theorem dX8_init_330 : decode cX8_init 330 = .ok (.getfield 119, 3) := by decide +kernel
theorem dX8_init_333 : decode cX8_init 333 = .ok (.iconst 0, 1) := by decide +kernel
theorem dX8_init_334 : decode cX8_init 334 = .ok (.bipush (-9), 2) := by decide +kernel
theorem dX8_init_336 : decode cX8_init 336 = .ok (.iastore, 1) := by decide +kernel
theorem dX8_init_337 : decode cX8_init 337 = .ok (.aload_n 0, 1) := by decide +kernel
theorem dX8_init_338 : decode cX8_init 338 = .ok (.getfield 119, 3) := by decide +kernel
theorem dX8_init_341 : decode cX8_init 341 = .ok (.iconst 1, 1) := by decide +kernel
theorem dX8_init_342 : decode cX8_init 342 = .ok (.bipush (-9), 2) := by decide +kernel
theorem dX8_init_344 : decode cX8_init 344 = .ok (.iastore, 1) := by decide +kernel
theorem dX8_init_345 : decode cX8_init 345 = .ok (.return_, 1) := by decide +kernel
theorem dX8_within_0 : decode cX8_within 0 = .ok (.iload_n 0, 1) := by decide +kernel
theorem dX8_within_1 : decode cX8_within 1 = .ok (.iload_n 1, 1) := by decide +kernel
theorem dX8_within_2 : decode cX8_within 2 = .ok (.if_icmp .lt 12, 3) := by decide +kernel
theorem dX8_within_5 : decode cX8_within 5 = .ok (.iload_n 0, 1) := by decide +kernel
theorem dX8_within_6 : decode cX8_within 6 = .ok (.iload_n 2, 1) := by decide +kernel
theorem dX8_within_7 : decode cX8_within 7 = .ok (.if_icmp .gt 7, 3) := by decide +kernel
theorem dX8_within_10 : decode cX8_within 10 = .ok (.iconst 1, 1) := by decide +kernel
theorem dX8_within_11 : decode cX8_within 11 = .ok (.goto 4, 3) := by decide +kernel
theorem dX8_within_14 : decode cX8_within 14 = .ok (.iconst 0, 1) := by decide +kernel
theorem dX8_within_15 : decode cX8_within 15 = .ok (.ireturn, 1) := by decide +kernel
set_option maxRecDepth 20000 in
theorem ggX8_isOne_X8_within : GoodIn wsX8_isOne wsX8_within := goodIn_r _ [4] (by decide +kernel) (by decide +kernel)
set_option maxRecDepth 20000 in
theorem gX8_isOne_X8_within : GoodIn wsX8_isOne (va_wsS RX8 126 yX8_within wsX8_within) := goodIn_app (goodIn_of _ (by decide +kernel)) ggX8_isOne_X8_within
theorem dX8_isOne_0 : decode cX8_isOne 0 = .ok (.iload_n 0, 1) := by decide +kernel
theorem dX8_isOne_1 : decode cX8_isOne 1 = .ok (.iconst 0, 1) := by decide +kernel
theorem dX8_isOne_2 : decode cX8_isOne 2 = .ok (.iconst 3, 1) := by decide +kernel
theorem dX8_isOne_3 : decode cX8_isOne 3 = .ok (.invokestatic 126, 3) := by decide +kernel
theorem dX8_isOne_6 : decode cX8_isOne 6 = .ok (.ireturn, 1) := by decide +kernel
set_option maxRecDepth 20000 in
theorem ggX8_counter_X8_isOne : GoodIn wsX8_counter wsX8_isOne := goodIn_r _ [12, 13, 14, 11, 15] (by decide +kernel) (by decide +kernel)
set_option maxRecDepth 20000 in
theorem gX8_counter_X8_isOne : GoodIn wsX8_counter (va_wsS RX8 130 yX8_isOne wsX8_isOne) := goodIn_app (goodIn_of _ (by decide +kernel)) ggX8_counter_X8_isOne
set_option maxRecDepth 20000 in
theorem ggX8_counter_X8_within : GoodIn wsX8_counter wsX8_within := goodIn_r _ [15] (by decide +kernel) (by decide +kernel)
set_option maxRecDepth 20000 in
theorem gX8_counter_X8_within : GoodIn wsX8_counter (va_wsS RX8 126 yX8_within wsX8_within) := goodIn_app (goodIn_of _ (by decide +kernel)) ggX8_counter_X8_within
theorem dX8_counter_0 : decode cX8_counter 0 = .ok (.iload_n 1, 1) := by decide +kernel
theorem dX8_counter_1 : decode cX8_counter 1 = .ok (.invokestatic 130, 3) := by decide +kernel
theorem dX8_counter_4 : decode cX8_counter 4 = .ok (.ifCond .ne 5, 3) := by decide +kernel
theorem dX8_counter_7 : decode cX8_counter 7 = .ok (.iconst (-1), 1) := by decide +kernel
theorem dX8_counter_8 : decode cX8_counter 8 = .ok (.ireturn, 1) := by decide +kernel
theorem dX8_counter_9 : decode cX8_counter 9 = .ok (.iload_n 2, 1) := by decide +kernel
theorem dX8_counter_10 : decode cX8_counter 10 = .ok (.iconst 0, 1) := by decide +kernel
theorem dX8_counter_11 : decode cX8_counter 11 = .ok (.iconst 2, 1) := by decide +kernel
theorem dX8_counter_12 : decode cX8_counter 12 = .ok (.invokestatic 126, 3) := by decide +kernel
theorem dX8_counter_15 : decode cX8_counter 15 = .ok (.ifCond .eq 25, 3) := by decide +kernel
theorem dX8_counter_18 : decode cX8_counter 18 = .ok (.iload_n 3, 1) := by decide +kernel
theorem dX8_counter_19 : decode cX8_counter 19 = .ok (.iconst 1, 1) := by decide +kernel
theorem dX8_counter_20 : decode cX8_counter 20 = .ok (.sipush 9999, 3) := by decide +kernel
theorem dX8_counter_23 : decode cX8_counter 23 = .ok (.invokestatic 126, 3) := by decide +kernel
theorem dX8_counter_26 : decode cX8_counter 26 = .ok (.ifCond .eq 14, 3) := by decide +kernel
theorem dX8_counter_29 : decode cX8_counter 29 = .ok (.iload 4, 2) := by decide +kernel
theorem dX8_counter_31 : decode cX8_counter 31 = .ok (.iconst 1, 1) := by decide +kernel
theorem dX8_counter_32 : decode cX8_counter 32 = .ok (.bipush 64, 2) := by decide +kernel
theorem dX8_counter_34 : decode cX8_counter 34 = .ok (.invokestatic 126, 3) := by decide +kernel
theorem dX8_counter_37 : decode cX8_counter 37 = .ok (.ifCond .ne 6, 3) := by decide +kernel
theorem dX8_counter_40 : decode cX8_counter 40 = .ok (.bipush (-2), 2) := by decide +kernel
theorem dX8_counter_42 : decode cX8_counter 42 = .ok (.ireturn, 1) := by decide +kernel
theorem dX8_counter_43 : decode cX8_counter 43 = .ok (.aload_n 0, 1) := by decide +kernel
theorem dX8_counter_44 : decode cX8_counter 44 = .ok (.getfield 7, 3) := by decide +kernel
theorem dX8_counter_47 : decode cX8_counter 47 = .ok (.iload_n 1, 1) := by decide +kernel
theorem dX8_counter_48 : decode cX8_counter 48 = .ok (.iload_n 2, 1) := by decide +kernel
theorem dX8_counter_49 : decode cX8_counter 49 = .ok (.iastore, 1) := by decide +kernel
theorem dX8_counter_50 : decode cX8_counter 50 = .ok (.aload_n 0, 1) := by decide +kernel
theorem dX8_counter_51 : decode cX8_counter 51 = .ok (.getfield 13, 3) := by decide +kernel
theorem dX8_counter_54 : decode cX8_counter 54 = .ok (.iload_n 1, 1) := by decide +kernel
theorem dX8_counter_55 : decode cX8_counter 55 = .ok (.iload_n 3, 1) := by decide +kernel
theorem dX8_counter_56 : decode cX8_counter 56 = .ok (.iastore, 1) := by decide +kernel
theorem dX8_counter_57 : decode cX8_counter 57 = .ok (.aload_n 0, 1) := by decide +kernel
theorem dX8_counter_58 : decode cX8_counter 58 = .ok (.getfield 16, 3) := by decide +kernel
theorem dX8_counter_61 : decode cX8_counter 61 = .ok (.iload_n 1, 1) := by decide +kernel
theorem dX8_counter_62 : decode cX8_counter 62 = .ok (.iload 4, 2) := by decide +kernel
theorem dX8_counter_64 : decode cX8_counter 64 = .ok (.iastore, 1) := by decide +kernel
theorem dX8_counter_65 : decode cX8_counter 65 = .ok (.aload_n 0, 1) := by decide +kernel
theorem dX8_counter_66 : decode cX8_counter 66 = .ok (.getfield 22, 3) := by decide +kernel
theorem dX8_counter_69 : decode cX8_counter 69 = .ok (.iload_n 1, 1) := by decide +kernel
theorem dX8_counter_70 : decode cX8_counter 70 = .ok (.iconst 0, 1) := by decide +kernel
theorem dX8_counter_71 : decode cX8_counter 71 = .ok (.iastore, 1) := by decide +kernel
theorem dX8_counter_72 : decode cX8_counter 72 = .ok (.aload_n 0, 1) := by decide +kernel
theorem dX8_counter_73 : decode cX8_counter 73 = .ok (.getfield 25, 3) := by decide +kernel
theorem dX8_counter_76 : decode cX8_counter 76 = .ok (.iload_n 1, 1) := by decide +kernel
theorem dX8_counter_77 : decode cX8_counter 77 = .ok (.iconst 0, 1) := by decide +kernel
theorem dX8_counter_78 : decode cX8_counter 78 = .ok (.iastore, 1) := by decide +kernel
theorem dX8_counter_79 : decode cX8_counter 79 = .ok (.aload_n 0, 1) := by decide +kernel
theorem dX8_counter_80 : decode cX8_counter 80 = .ok (.getfield 31, 3) := by decide +kernel
theorem dX8_counter_83 : decode cX8_counter 83 = .ok (.iload_n 1, 1) := by decide +kernel
theorem dX8_counter_84 : decode cX8_counter 84 = .ok (.iconst 0, 1) := by decide +kernel
theorem dX8_counter_85 : decode cX8_counter 85 = .ok (.iastore, 1) := by decide +kernel
theorem dX8_counter_86 : decode cX8_counter 86 = .ok (.aload_n 0, 1) := by decide +kernel
theorem dX8_counter_87 : decode cX8_counter 87 = .ok (.getfield 28, 3) := by decide +kernel
theorem dX8_counter_90 : decode cX8_counter 90 = .ok (.iload_n 1, 1) := by decide +kernel
theorem dX8_counter_91 : decode cX8_counter 91 = .ok (.iconst 1, 1) := by decide +kernel
theorem dX8_counter_92 : decode cX8_counter 92 = .ok (.iastore, 1) := by decide +kernel
theorem dX8_counter_93 : decode cX8_counter 93 = .ok (.aload_n 0, 1) := by decide +kernel
theorem dX8_counter_94 : decode cX8_counter 94 = .ok (.getfield 34, 3) := by decide +kernel
theorem dX8_counter_97 : decode cX8_counter 97 = .ok (.iload_n 1, 1) := by decide +kernel
theorem dX8_counter_98 : decode cX8_counter 98 = .ok (.bipush (-9), 2) := by decide +kernel
theorem dX8_counter_100 : decode cX8_counter 100 = .ok (.iastore, 1) := by decide +kernel
theorem dX8_counter_101 : decode cX8_counter 101 = .ok (.iconst 1, 1) := by decide +kernel
theorem dX8_counter_102 : decode cX8_counter 102 = .ok (.ireturn, 1) := by decide +kernel
set_option maxRecDepth 20000 in
theorem ggX8_source_X8_isOne : GoodIn wsX8_source wsX8_isOne := goodIn_r _ [5, 6, 7, 4, 8] (by decide +kernel) (by decide +kernel)
set_option maxRecDepth 20000 in
theorem gX8_source_X8_isOne : GoodIn wsX8_source (va_wsS RX8 130 yX8_isOne wsX8_isOne) := goodIn_app (goodIn_of _ (by decide +kernel)) ggX8_source_X8_isOne
set_option maxRecDepth 20000 in
theorem ggX8_source_X8_within : GoodIn wsX8_source wsX8_within := goodIn_r _ [8] (by decide +kernel) (by decide +kernel)
set_option maxRecDepth 20000 in
theorem gX8_source_X8_within : GoodIn wsX8_source (va_wsS RX8 126 yX8_within wsX8_within) := goodIn_app (goodIn_of _ (by decide +kernel)) ggX8_source_X8_within
theorem dX8_source_0 : decode cX8_source 0 = .ok (.iload_n 1, 1) := by decide +kernel
theorem dX8_source_1 : decode cX8_source 1 = .ok (.invokestatic 130, 3) := by decide +kernel
theorem dX8_source_4 : decode cX8_source 4 = .ok (.ifCond .ne 5, 3) := by decide +kernel
theorem dX8_source_7 : decode cX8_source 7 = .ok (.iconst (-1), 1) := by decide +kernel
theorem dX8_source_8 : decode cX8_source 8 = .ok (.ireturn, 1) := by decide +kernel
theorem dX8_source_9 : decode cX8_source 9 = .ok (.iload_n 2, 1) := by decide +kernel
theorem dX8_source_10 : decode cX8_source 10 = .ok (.iconst 0, 1) := by decide +kernel
theorem dX8_source_11 : decode cX8_source 11 = .ok (.iconst 3, 1) := by decide +kernel
theorem dX8_source_12 : decode cX8_source 12 = .ok (.invokestatic 126, 3) := by decide +kernel
theorem dX8_source_15 : decode cX8_source 15 = .ok (.ifCond .ne 6, 3) := by decide +kernel
theorem dX8_source_18 : decode cX8_source 18 = .ok (.bipush (-2), 2) := by decide +kernel
theorem dX8_source_20 : decode cX8_source 20 = .ok (.ireturn, 1) := by decide +kernel
theorem dX8_source_21 : decode cX8_source 21 = .ok (.iload_n 2, 1) := by decide +kernel
theorem dX8_source_22 : decode cX8_source 22 = .ok (.iconst 2, 1) := by decide +kernel
theorem dX8_source_23 : decode cX8_source 23 = .ok (.if_icmp .ne 10, 3) := by decide +kernel
theorem dX8_source_26 : decode cX8_source 26 = .ok (.iload_n 1, 1) := by decide +kernel
theorem dX8_source_27 : decode cX8_source 27 = .ok (.ifCond .ne 6, 3) := by decide +kernel
theorem dX8_source_30 : decode cX8_source 30 = .ok (.bipush (-3), 2) := by decide +kernel
theorem dX8_source_32 : decode cX8_source 32 = .ok (.ireturn, 1) := by decide +kernel
theorem dX8_source_33 : decode cX8_source 33 = .ok (.aload_n 0, 1) := by decide +kernel
theorem dX8_source_34 : decode cX8_source 34 = .ok (.getfield 19, 3) := by decide +kernel
theorem dX8_source_37 : decode cX8_source 37 = .ok (.iload_n 1, 1) := by decide +kernel
theorem dX8_source_38 : decode cX8_source 38 = .ok (.iaload, 1) := by decide +kernel
theorem dX8_source_39 : decode cX8_source 39 = .ok (.istore_n 3, 1) := by decide +kernel
theorem dX8_source_40 : decode cX8_source 40 = .ok (.aload_n 0, 1) := by decide +kernel
theorem dX8_source_41 : decode cX8_source 41 = .ok (.getfield 19, 3) := by decide +kernel
theorem dX8_source_44 : decode cX8_source 44 = .ok (.iload_n 1, 1) := by decide +kernel
theorem dX8_source_45 : decode cX8_source 45 = .ok (.iload_n 2, 1) := by decide +kernel
theorem dX8_source_46 : decode cX8_source 46 = .ok (.iastore, 1) := by decide +kernel
theorem dX8_source_47 : decode cX8_source 47 = .ok (.iload_n 3, 1) := by decide +kernel
theorem dX8_source_48 : decode cX8_source 48 = .ok (.ireturn, 1) := by decide +kernel
set_option maxRecDepth 20000 in
theorem ggX8_count_X8_isOne : GoodIn wsX8_count wsX8_isOne := goodIn_r _ [6, 7, 8, 5, 9] (by decide +kernel) (by decide +kernel)
set_option maxRecDepth 20000 in
theorem gX8_count_X8_isOne : GoodIn wsX8_count (va_wsS RX8 130 yX8_isOne wsX8_isOne) := goodIn_app (goodIn_of _ (by decide +kernel)) ggX8_count_X8_isOne
set_option maxRecDepth 20000 in
theorem ggX8_count_X8_within : GoodIn wsX8_count wsX8_within := goodIn_r _ [9] (by decide +kernel) (by decide +kernel)
set_option maxRecDepth 20000 in
theorem gX8_count_X8_within : GoodIn wsX8_count (va_wsS RX8 126 yX8_within wsX8_within) := goodIn_app (goodIn_of _ (by decide +kernel)) ggX8_count_X8_within
theorem dX8_count_0 : decode cX8_count 0 = .ok (.iload_n 1, 1) := by decide +kernel
theorem dX8_count_1 : decode cX8_count 1 = .ok (.invokestatic 130, 3) := by decide +kernel
theorem dX8_count_4 : decode cX8_count 4 = .ok (.ifCond .ne 5, 3) := by decide +kernel
theorem dX8_count_7 : decode cX8_count 7 = .ok (.iconst (-1), 1) := by decide +kernel
theorem dX8_count_8 : decode cX8_count 8 = .ok (.ireturn, 1) := by decide +kernel
theorem dX8_count_9 : decode cX8_count 9 = .ok (.iload_n 2, 1) := by decide +kernel
theorem dX8_count_10 : decode cX8_count 10 = .ok (.iconst 0, 1) := by decide +kernel
theorem dX8_count_11 : decode cX8_count 11 = .ok (.aload_n 0, 1) := by decide +kernel
theorem dX8_count_12 : decode cX8_count 12 = .ok (.getfield 13, 3) := by decide +kernel
theorem dX8_count_15 : decode cX8_count 15 = .ok (.iload_n 1, 1) := by decide +kernel
theorem dX8_count_16 : decode cX8_count 16 = .ok (.iaload, 1) := by decide +kernel
theorem dX8_count_17 : decode cX8_count 17 = .ok (.invokestatic 126, 3) := by decide +kernel
theorem dX8_count_20 : decode cX8_count 20 = .ok (.ifCond .ne 6, 3) := by decide +kernel
theorem dX8_count_23 : decode cX8_count 23 = .ok (.bipush (-2), 2) := by decide +kernel
theorem dX8_count_25 : decode cX8_count 25 = .ok (.ireturn, 1) := by decide +kernel
theorem dX8_count_26 : decode cX8_count 26 = .ok (.aload_n 0, 1) := by decide +kernel
theorem dX8_count_27 : decode cX8_count 27 = .ok (.getfield 22, 3) := by decide +kernel
theorem dX8_count_30 : decode cX8_count 30 = .ok (.iload_n 1, 1) := by decide +kernel
theorem dX8_count_31 : decode cX8_count 31 = .ok (.iaload, 1) := by decide +kernel
theorem dX8_count_32 : decode cX8_count 32 = .ok (.istore_n 3, 1) := by decide +kernel
theorem dX8_count_33 : decode cX8_count 33 = .ok (.aload_n 0, 1) := by decide +kernel
theorem dX8_count_34 : decode cX8_count 34 = .ok (.getfield 22, 3) := by decide +kernel
theorem dX8_count_37 : decode cX8_count 37 = .ok (.iload_n 1, 1) := by decide +kernel
theorem dX8_count_38 : decode cX8_count 38 = .ok (.iload_n 2, 1) := by decide +kernel
theorem dX8_count_39 : decode cX8_count 39 = .ok (.iastore, 1) := by decide +kernel
theorem dX8_count_40 : decode cX8_count 40 = .ok (.iload_n 3, 1) := by decide +kernel
theorem dX8_count_41 : decode cX8_count 41 = .ok (.ireturn, 1) := by decide +kernel
set_option maxRecDepth 20000 in
theorem ggX8_top_X8_isOne : GoodIn wsX8_top wsX8_isOne := goodIn_r _ [6, 7, 8, 5, 9] (by decide +kernel) (by decide +kernel)
set_option maxRecDepth 20000 in
theorem gX8_top_X8_isOne : GoodIn wsX8_top (va_wsS RX8 130 yX8_isOne wsX8_isOne) := goodIn_app (goodIn_of _ (by decide +kernel)) ggX8_top_X8_isOne
set_option maxRecDepth 20000 in
theorem ggX8_top_X8_within : GoodIn wsX8_top wsX8_within := goodIn_r _ [9] (by decide +kernel) (by decide +kernel)
set_option maxRecDepth 20000 in
theorem gX8_top_X8_within : GoodIn wsX8_top (va_wsS RX8 126 yX8_within wsX8_within) := goodIn_app (goodIn_of _ (by decide +kernel)) ggX8_top_X8_within
theorem dX8_top_0 : decode cX8_top 0 = .ok (.iload_n 1, 1) := by decide +kernel
theorem dX8_top_1 : decode cX8_top 1 = .ok (.invokestatic 130, 3) := by decide +kernel
theorem dX8_top_4 : decode cX8_top 4 = .ok (.ifCond .ne 5, 3) := by decide +kernel
theorem dX8_top_7 : decode cX8_top 7 = .ok (.iconst (-1), 1) := by decide +kernel
theorem dX8_top_8 : decode cX8_top 8 = .ok (.ireturn, 1) := by decide +kernel
theorem dX8_top_9 : decode cX8_top 9 = .ok (.iload_n 2, 1) := by decide +kernel
theorem dX8_top_10 : decode cX8_top 10 = .ok (.iconst 1, 1) := by decide +kernel
theorem dX8_top_11 : decode cX8_top 11 = .ok (.sipush 9999, 3) := by decide +kernel
theorem dX8_top_14 : decode cX8_top 14 = .ok (.invokestatic 126, 3) := by decide +kernel
theorem dX8_top_17 : decode cX8_top 17 = .ok (.ifCond .ne 6, 3) := by decide +kernel
theorem dX8_top_20 : decode cX8_top 20 = .ok (.bipush (-2), 2) := by decide +kernel
theorem dX8_top_22 : decode cX8_top 22 = .ok (.ireturn, 1) := by decide +kernel
theorem dX8_top_23 : decode cX8_top 23 = .ok (.aload_n 0, 1) := by decide +kernel
theorem dX8_top_24 : decode cX8_top 24 = .ok (.getfield 34, 3) := by decide +kernel
theorem dX8_top_27 : decode cX8_top 27 = .ok (.iload_n 1, 1) := by decide +kernel
theorem dX8_top_28 : decode cX8_top 28 = .ok (.iload_n 2, 1) := by decide +kernel
theorem dX8_top_29 : decode cX8_top 29 = .ok (.iastore, 1) := by decide +kernel
theorem dX8_top_30 : decode cX8_top 30 = .ok (.aload_n 0, 1) := by decide +kernel
theorem dX8_top_31 : decode cX8_top 31 = .ok (.getfield 13, 3) := by decide +kernel
theorem dX8_top_34 : decode cX8_top 34 = .ok (.iload_n 1, 1) := by decide +kernel
theorem dX8_top_35 : decode cX8_top 35 = .ok (.iaload, 1) := by decide +kernel
theorem dX8_top_36 : decode cX8_top 36 = .ok (.ireturn, 1) := by decide +kernel
set_option maxRecDepth 20000 in
theorem ggX8_ofCounter_X8_isOne : GoodIn wsX8_ofCounter wsX8_isOne := goodIn_r _ [13, 14, 15, 12, 16] (by decide +kernel) (by decide +kernel)
set_option maxRecDepth 20000 in
theorem gX8_ofCounter_X8_isOne : GoodIn wsX8_ofCounter (va_wsS RX8 130 yX8_isOne wsX8_isOne) := goodIn_app (goodIn_of _ (by decide +kernel)) ggX8_ofCounter_X8_isOne
theorem dX8_ofCounter_0 : decode cX8_ofCounter 0 = .ok (.iload_n 1, 1) := by decide +kernel
theorem dX8_ofCounter_1 : decode cX8_ofCounter 1 = .ok (.invokestatic 130, 3) := by decide +kernel
theorem dX8_ofCounter_4 : decode cX8_ofCounter 4 = .ok (.ifCond .ne 5, 3) := by decide +kernel
theorem dX8_ofCounter_7 : decode cX8_ofCounter 7 = .ok (.iconst (-1), 1) := by decide +kernel
theorem dX8_ofCounter_8 : decode cX8_ofCounter 8 = .ok (.ireturn, 1) := by decide +kernel
theorem dX8_ofCounter_9 : decode cX8_ofCounter 9 = .ok (.iload_n 2, 1) := by decide +kernel
theorem dX8_ofCounter_10 : decode cX8_ofCounter 10 = .ok (.tableswitch 113 0 8 #[50, 57, 64, 71, 78, 85, 92, 99, 106], 50) := by decide +kernel
theorem dX8_ofCounter_60 : decode cX8_ofCounter 60 = .ok (.aload_n 0, 1) := by decide +kernel
theorem dX8_ofCounter_61 : decode cX8_ofCounter 61 = .ok (.getfield 22, 3) := by decide +kernel
theorem dX8_ofCounter_64 : decode cX8_ofCounter 64 = .ok (.iload_n 1, 1) := by decide +kernel
theorem dX8_ofCounter_65 : decode cX8_ofCounter 65 = .ok (.iaload, 1) := by decide +kernel
theorem dX8_ofCounter_66 : decode cX8_ofCounter 66 = .ok (.ireturn, 1) := by decide +kernel
theorem dX8_ofCounter_67 : decode cX8_ofCounter 67 = .ok (.aload_n 0, 1) := by decide +kernel
theorem dX8_ofCounter_68 : decode cX8_ofCounter 68 = .ok (.getfield 13, 3) := by decide +kernel
theorem dX8_ofCounter_71 : decode cX8_ofCounter 71 = .ok (.iload_n 1, 1) := by decide +kernel
theorem dX8_ofCounter_72 : decode cX8_ofCounter 72 = .ok (.iaload, 1) := by decide +kernel
theorem dX8_ofCounter_73 : decode cX8_ofCounter 73 = .ok (.ireturn, 1) := by decide +kernel
theorem dX8_ofCounter_74 : decode cX8_ofCounter 74 = .ok (.aload_n 0, 1) := by decide +kernel
theorem dX8_ofCounter_75 : decode cX8_ofCounter 75 = .ok (.getfield 7, 3) := by decide +kernel
theorem dX8_ofCounter_78 : decode cX8_ofCounter 78 = .ok (.iload_n 1, 1) := by decide +kernel
theorem dX8_ofCounter_79 : decode cX8_ofCounter 79 = .ok (.iaload, 1) := by decide +kernel
theorem dX8_ofCounter_80 : decode cX8_ofCounter 80 = .ok (.ireturn, 1) := by decide +kernel
theorem dX8_ofCounter_81 : decode cX8_ofCounter 81 = .ok (.aload_n 0, 1) := by decide +kernel
theorem dX8_ofCounter_82 : decode cX8_ofCounter 82 = .ok (.getfield 16, 3) := by decide +kernel
theorem dX8_ofCounter_85 : decode cX8_ofCounter 85 = .ok (.iload_n 1, 1) := by decide +kernel
theorem dX8_ofCounter_86 : decode cX8_ofCounter 86 = .ok (.iaload, 1) := by decide +kernel
theorem dX8_ofCounter_87 : decode cX8_ofCounter 87 = .ok (.ireturn, 1) := by decide +kernel
theorem dX8_ofCounter_88 : decode cX8_ofCounter 88 = .ok (.aload_n 0, 1) := by decide +kernel
theorem dX8_ofCounter_89 : decode cX8_ofCounter 89 = .ok (.getfield 19, 3) := by decide +kernel
theorem dX8_ofCounter_92 : decode cX8_ofCounter 92 = .ok (.iload_n 1, 1) := by decide +kernel
theorem dX8_ofCounter_93 : decode cX8_ofCounter 93 = .ok (.iaload, 1) := by decide +kernel
theorem dX8_ofCounter_94 : decode cX8_ofCounter 94 = .ok (.ireturn, 1) := by decide +kernel
theorem dX8_ofCounter_95 : decode cX8_ofCounter 95 = .ok (.aload_n 0, 1) := by decide +kernel
theorem dX8_ofCounter_96 : decode cX8_ofCounter 96 = .ok (.getfield 25, 3) := by decide +kernel
theorem dX8_ofCounter_99 : decode cX8_ofCounter 99 = .ok (.iload_n 1, 1) := by decide +kernel
theorem dX8_ofCounter_100 : decode cX8_ofCounter 100 = .ok (.iaload, 1) := by decide +kernel
theorem dX8_ofCounter_101 : decode cX8_ofCounter 101 = .ok (.ireturn, 1) := by decide +kernel
theorem dX8_ofCounter_102 : decode cX8_ofCounter 102 = .ok (.aload_n 0, 1) := by decide +kernel
theorem dX8_ofCounter_103 : decode cX8_ofCounter 103 = .ok (.getfield 28, 3) := by decide +kernel
theorem dX8_ofCounter_106 : decode cX8_ofCounter 106 = .ok (.iload_n 1, 1) := by decide +kernel
theorem dX8_ofCounter_107 : decode cX8_ofCounter 107 = .ok (.iaload, 1) := by decide +kernel
theorem dX8_ofCounter_108 : decode cX8_ofCounter 108 = .ok (.ireturn, 1) := by decide +kernel
theorem dX8_ofCounter_109 : decode cX8_ofCounter 109 = .ok (.aload_n 0, 1) := by decide +kernel
theorem dX8_ofCounter_110 : decode cX8_ofCounter 110 = .ok (.getfield 31, 3) := by decide +kernel
theorem dX8_ofCounter_113 : decode cX8_ofCounter 113 = .ok (.iload_n 1, 1) := by decide +kernel
theorem dX8_ofCounter_114 : decode cX8_ofCounter 114 = .ok (.iaload, 1) := by decide +kernel
theorem dX8_ofCounter_115 : decode cX8_ofCounter 115 = .ok (.ireturn, 1) := by decide +kernel
theorem dX8_ofCounter_116 : decode cX8_ofCounter 116 = .ok (.aload_n 0, 1) := by decide +kernel
theorem dX8_ofCounter_117 : decode cX8_ofCounter 117 = .ok (.getfield 34, 3) := by decide +kernel
theorem dX8_ofCounter_120 : decode cX8_ofCounter 120 = .ok (.iload_n 1, 1) := by decide +kernel
theorem dX8_ofCounter_121 : decode cX8_ofCounter 121 = .ok (.iaload, 1) := by decide +kernel
theorem dX8_ofCounter_122 : decode cX8_ofCounter 122 = .ok (.ireturn, 1) := by decide +kernel
theorem dX8_ofCounter_123 : decode cX8_ofCounter 123 = .ok (.bipush (-2), 2) := by decide +kernel
theorem dX8_ofCounter_125 : decode cX8_ofCounter 125 = .ok (.ireturn, 1) := by decide +kernel
theorem dX8_hasPulse_0 : decode cX8_hasPulse 0 = .ok (.aload_n 0, 1) := by decide +kernel
theorem dX8_hasPulse_1 : decode cX8_hasPulse 1 = .ok (.getfield 19, 3) := by decide +kernel
theorem dX8_hasPulse_4 : decode cX8_hasPulse 4 = .ok (.iload_n 1, 1) := by decide +kernel
theorem dX8_hasPulse_5 : decode cX8_hasPulse 5 = .ok (.iaload, 1) := by decide +kernel
theorem dX8_hasPulse_6 : decode cX8_hasPulse 6 = .ok (.tableswitch 53 1 3 #[26, 28, 37], 26) := by decide +kernel
theorem dX8_hasPulse_32 : decode cX8_hasPulse 32 = .ok (.iconst 1, 1) := by decide +kernel
theorem dX8_hasPulse_33 : decode cX8_hasPulse 33 = .ok (.ireturn, 1) := by decide +kernel
theorem dX8_hasPulse_34 : decode cX8_hasPulse 34 = .ok (.aload_n 0, 1) := by decide +kernel
theorem dX8_hasPulse_35 : decode cX8_hasPulse 35 = .ok (.getfield 41, 3) := by decide +kernel
theorem dX8_hasPulse_38 : decode cX8_hasPulse 38 = .ok (.iload_n 1, 1) := by decide +kernel
theorem dX8_hasPulse_39 : decode cX8_hasPulse 39 = .ok (.iconst 1, 1) := by decide +kernel
theorem dX8_hasPulse_40 : decode cX8_hasPulse 40 = .ok (.isub, 1) := by decide +kernel
theorem dX8_hasPulse_41 : decode cX8_hasPulse 41 = .ok (.baload, 1) := by decide +kernel
theorem dX8_hasPulse_42 : decode cX8_hasPulse 42 = .ok (.ireturn, 1) := by decide +kernel
theorem dX8_hasPulse_43 : decode cX8_hasPulse 43 = .ok (.aload_n 0, 1) := by decide +kernel
theorem dX8_hasPulse_44 : decode cX8_hasPulse 44 = .ok (.getfield 56, 3) := by decide +kernel
theorem dX8_hasPulse_47 : decode cX8_hasPulse 47 = .ok (.iload_n 1, 1) := by decide +kernel
theorem dX8_hasPulse_48 : decode cX8_hasPulse 48 = .ok (.iaload, 1) := by decide +kernel
theorem dX8_hasPulse_49 : decode cX8_hasPulse 49 = .ok (.iconst 1, 1) := by decide +kernel
theorem dX8_hasPulse_50 : decode cX8_hasPulse 50 = .ok (.if_icmp .ne 7, 3) := by decide +kernel
theorem dX8_hasPulse_53 : decode cX8_hasPulse 53 = .ok (.iconst 1, 1) := by decide +kernel
theorem dX8_hasPulse_54 : decode cX8_hasPulse 54 = .ok (.goto 4, 3) := by decide +kernel
theorem dX8_hasPulse_57 : decode cX8_hasPulse 57 = .ok (.iconst 0, 1) := by decide +kernel
theorem dX8_hasPulse_58 : decode cX8_hasPulse 58 = .ok (.ireturn, 1) := by decide +kernel
theorem dX8_hasPulse_59 : decode cX8_hasPulse 59 = .ok (.iconst 0, 1) := by decide +kernel
theorem dX8_hasPulse_60 : decode cX8_hasPulse 60 = .ok (.ireturn, 1) := by decide +kernel
theorem dX8_goesOver_0 : decode cX8_goesOver 0 = .ok (.aload_n 0, 1) := by decide +kernel
theorem dX8_goesOver_1 : decode cX8_goesOver 1 = .ok (.getfield 41, 3) := by decide +kernel
theorem dX8_goesOver_4 : decode cX8_goesOver 4 = .ok (.iload_n 1, 1) := by decide +kernel
theorem dX8_goesOver_5 : decode cX8_goesOver 5 = .ok (.iconst 1, 1) := by decide +kernel
theorem dX8_goesOver_6 : decode cX8_goesOver 6 = .ok (.bastore, 1) := by decide +kernel
theorem dX8_goesOver_7 : decode cX8_goesOver 7 = .ok (.aload_n 0, 1) := by decide +kernel
theorem dX8_goesOver_8 : decode cX8_goesOver 8 = .ok (.getfield 31, 3) := by decide +kernel
theorem dX8_goesOver_11 : decode cX8_goesOver 11 = .ok (.iload_n 1, 1) := by decide +kernel
theorem dX8_goesOver_12 : decode cX8_goesOver 12 = .ok (.dup2, 1) := by decide +kernel
theorem dX8_goesOver_13 : decode cX8_goesOver 13 = .ok (.iaload, 1) := by decide +kernel
theorem dX8_goesOver_14 : decode cX8_goesOver 14 = .ok (.iconst 1, 1) := by decide +kernel
theorem dX8_goesOver_15 : decode cX8_goesOver 15 = .ok (.iadd, 1) := by decide +kernel
theorem dX8_goesOver_16 : decode cX8_goesOver 16 = .ok (.iastore, 1) := by decide +kernel
theorem dX8_goesOver_17 : decode cX8_goesOver 17 = .ok (.return_, 1) := by decide +kernel
theorem dX8_takesTop_0 : decode cX8_takesTop 0 = .ok (.aload_n 0, 1) := by decide +kernel
theorem dX8_takesTop_1 : decode cX8_takesTop 1 = .ok (.getfield 13, 3) := by decide +kernel
theorem dX8_takesTop_4 : decode cX8_takesTop 4 = .ok (.iload_n 1, 1) := by decide +kernel
theorem dX8_takesTop_5 : decode cX8_takesTop 5 = .ok (.aload_n 0, 1) := by decide +kernel
theorem dX8_takesTop_6 : decode cX8_takesTop 6 = .ok (.getfield 34, 3) := by decide +kernel
theorem dX8_takesTop_9 : decode cX8_takesTop 9 = .ok (.iload_n 1, 1) := by decide +kernel
theorem dX8_takesTop_10 : decode cX8_takesTop 10 = .ok (.iaload, 1) := by decide +kernel
theorem dX8_takesTop_11 : decode cX8_takesTop 11 = .ok (.bipush (-9), 2) := by decide +kernel
theorem dX8_takesTop_13 : decode cX8_takesTop 13 = .ok (.if_icmp .ne 12, 3) := by decide +kernel
theorem dX8_takesTop_16 : decode cX8_takesTop 16 = .ok (.aload_n 0, 1) := by decide +kernel
theorem dX8_takesTop_17 : decode cX8_takesTop 17 = .ok (.getfield 13, 3) := by decide +kernel
theorem dX8_takesTop_20 : decode cX8_takesTop 20 = .ok (.iload_n 1, 1) := by decide +kernel
theorem dX8_takesTop_21 : decode cX8_takesTop 21 = .ok (.iaload, 1) := by decide +kernel
theorem dX8_takesTop_22 : decode cX8_takesTop 22 = .ok (.goto 9, 3) := by decide +kernel
theorem dX8_takesTop_25 : decode cX8_takesTop 25 = .ok (.aload_n 0, 1) := by decide +kernel
theorem dX8_takesTop_26 : decode cX8_takesTop 26 = .ok (.getfield 34, 3) := by decide +kernel
theorem dX8_takesTop_29 : decode cX8_takesTop 29 = .ok (.iload_n 1, 1) := by decide +kernel
theorem dX8_takesTop_30 : decode cX8_takesTop 30 = .ok (.iaload, 1) := by decide +kernel
theorem dX8_takesTop_31 : decode cX8_takesTop 31 = .ok (.iastore, 1) := by decide +kernel
theorem dX8_takesTop_32 : decode cX8_takesTop 32 = .ok (.aload_n 0, 1) := by decide +kernel
theorem dX8_takesTop_33 : decode cX8_takesTop 33 = .ok (.getfield 34, 3) := by decide +kernel
theorem dX8_takesTop_36 : decode cX8_takesTop 36 = .ok (.iload_n 1, 1) := by decide +kernel
theorem dX8_takesTop_37 : decode cX8_takesTop 37 = .ok (.bipush (-9), 2) := by decide +kernel
theorem dX8_takesTop_39 : decode cX8_takesTop 39 = .ok (.iastore, 1) := by decide +kernel
theorem dX8_takesTop_40 : decode cX8_takesTop 40 = .ok (.return_, 1) := by decide +kernel
set_option maxRecDepth 20000 in
theorem ggX8_stepsUp_X8_goesOver : GoodIn wsX8_stepsUp wsX8_goesOver := goodIn_r _ [7, 8, 9, 15, 16, 17, 18, 19, 20, 21, 22, 23, 24, 25, 26, 27, 28, 29, 30, 31, 32, 33, 34, 35, 36, 37, 38, 39, 40, 41, 42, 43, 44, 45, 46, 47, 48, 49, 50, 51, 52, 53, 54, 55, 56, 57, 58, 59] (by decide +kernel) (by decide +kernel)
set_option maxRecDepth 20000 in
theorem gX8_stepsUp_X8_goesOver : GoodIn wsX8_stepsUp (wsV RX8 134 RX8 yX8_goesOver wsX8_goesOver) := goodIn_app (goodIn_of _ (by decide +kernel)) ggX8_stepsUp_X8_goesOver
set_option maxRecDepth 20000 in
theorem ggX8_stepsUp_X8_takesTop : GoodIn wsX8_stepsUp wsX8_takesTop := goodIn_r _ [13, 2, 14, 15, 16, 17, 18, 19, 20, 21, 22, 23, 24, 25, 26, 27, 28, 29, 30, 31, 32, 33, 34, 35, 36, 37, 38, 39, 40, 41, 42, 43, 44, 45, 46, 47, 48, 49, 50, 51, 52, 53, 54, 55, 56, 57, 58, 59] (by decide +kernel) (by decide +kernel)
set_option maxRecDepth 20000 in
theorem gX8_stepsUp_X8_takesTop : GoodIn wsX8_stepsUp (wsV RX8 138 RX8 yX8_takesTop wsX8_takesTop) := goodIn_app (goodIn_of _ (by decide +kernel)) ggX8_stepsUp_X8_takesTop
theorem dX8_stepsUp_0 : decode cX8_stepsUp 0 = .ok (.aload_n 0, 1) := by decide +kernel
theorem dX8_stepsUp_1 : decode cX8_stepsUp 1 = .ok (.getfield 22, 3) := by decide +kernel
theorem dX8_stepsUp_4 : decode cX8_stepsUp 4 = .ok (.iload_n 1, 1) := by decide +kernel
theorem dX8_stepsUp_5 : decode cX8_stepsUp 5 = .ok (.iaload, 1) := by decide +kernel
theorem dX8_stepsUp_6 : decode cX8_stepsUp 6 = .ok (.aload_n 0, 1) := by decide +kernel
theorem dX8_stepsUp_7 : decode cX8_stepsUp 7 = .ok (.getfield 13, 3) := by decide +kernel
theorem dX8_stepsUp_10 : decode cX8_stepsUp 10 = .ok (.iload_n 1, 1) := by decide +kernel
theorem dX8_stepsUp_11 : decode cX8_stepsUp 11 = .ok (.iaload, 1) := by decide +kernel
theorem dX8_stepsUp_12 : decode cX8_stepsUp 12 = .ok (.if_icmp .ne 23, 3) := by decide +kernel
theorem dX8_stepsUp_15 : decode cX8_stepsUp 15 = .ok (.aload_n 0, 1) := by decide +kernel
theorem dX8_stepsUp_16 : decode cX8_stepsUp 16 = .ok (.iload_n 1, 1) := by decide +kernel
theorem dX8_stepsUp_17 : decode cX8_stepsUp 17 = .ok (.invokevirtual 134, 3) := by decide +kernel
theorem dX8_stepsUp_20 : decode cX8_stepsUp 20 = .ok (.aload_n 0, 1) := by decide +kernel
theorem dX8_stepsUp_21 : decode cX8_stepsUp 21 = .ok (.iload_n 1, 1) := by decide +kernel
theorem dX8_stepsUp_22 : decode cX8_stepsUp 22 = .ok (.invokevirtual 138, 3) := by decide +kernel
theorem dX8_stepsUp_25 : decode cX8_stepsUp 25 = .ok (.aload_n 0, 1) := by decide +kernel
theorem dX8_stepsUp_26 : decode cX8_stepsUp 26 = .ok (.getfield 22, 3) := by decide +kernel
theorem dX8_stepsUp_29 : decode cX8_stepsUp 29 = .ok (.iload_n 1, 1) := by decide +kernel
theorem dX8_stepsUp_30 : decode cX8_stepsUp 30 = .ok (.iconst 0, 1) := by decide +kernel
theorem dX8_stepsUp_31 : decode cX8_stepsUp 31 = .ok (.iastore, 1) := by decide +kernel
theorem dX8_stepsUp_32 : decode cX8_stepsUp 32 = .ok (.goto 13, 3) := by decide +kernel
theorem dX8_stepsUp_35 : decode cX8_stepsUp 35 = .ok (.aload_n 0, 1) := by decide +kernel
theorem dX8_stepsUp_36 : decode cX8_stepsUp 36 = .ok (.getfield 22, 3) := by decide +kernel
theorem dX8_stepsUp_39 : decode cX8_stepsUp 39 = .ok (.iload_n 1, 1) := by decide +kernel
theorem dX8_stepsUp_40 : decode cX8_stepsUp 40 = .ok (.dup2, 1) := by decide +kernel
theorem dX8_stepsUp_41 : decode cX8_stepsUp 41 = .ok (.iaload, 1) := by decide +kernel
theorem dX8_stepsUp_42 : decode cX8_stepsUp 42 = .ok (.iconst 1, 1) := by decide +kernel
theorem dX8_stepsUp_43 : decode cX8_stepsUp 43 = .ok (.iadd, 1) := by decide +kernel
theorem dX8_stepsUp_44 : decode cX8_stepsUp 44 = .ok (.iastore, 1) := by decide +kernel
theorem dX8_stepsUp_45 : decode cX8_stepsUp 45 = .ok (.return_, 1) := by decide +kernel
set_option maxRecDepth 20000 in
theorem ggX8_stepsDown_X8_goesOver : GoodIn wsX8_stepsDown wsX8_goesOver := goodIn_r _ [7, 8, 9, 15, 16, 17, 18, 19, 20, 21, 22, 23, 24, 25, 26, 27, 28, 29, 30, 31, 32, 33, 34, 35, 36, 37, 38, 39, 40, 41, 42, 43, 44, 45, 46, 47, 48, 49, 50, 51, 52, 53, 54, 55, 56, 57, 58, 59] (by decide +kernel) (by decide +kernel)
set_option maxRecDepth 20000 in
theorem gX8_stepsDown_X8_goesOver : GoodIn wsX8_stepsDown (wsV RX8 134 RX8 yX8_goesOver wsX8_goesOver) := goodIn_app (goodIn_of _ (by decide +kernel)) ggX8_stepsDown_X8_goesOver
set_option maxRecDepth 20000 in
theorem ggX8_stepsDown_X8_takesTop : GoodIn wsX8_stepsDown wsX8_takesTop := goodIn_r _ [13, 2, 14, 15, 16, 17, 18, 19, 20, 21, 22, 23, 24, 25, 26, 27, 28, 29, 30, 31, 32, 33, 34, 35, 36, 37, 38, 39, 40, 41, 42, 43, 44, 45, 46, 47, 48, 49, 50, 51, 52, 53, 54, 55, 56, 57, 58, 59] (by decide +kernel) (by decide +kernel)
set_option maxRecDepth 20000 in
theorem gX8_stepsDown_X8_takesTop : GoodIn wsX8_stepsDown (wsV RX8 138 RX8 yX8_takesTop wsX8_takesTop) := goodIn_app (goodIn_of _ (by decide +kernel)) ggX8_stepsDown_X8_takesTop
theorem dX8_stepsDown_0 : decode cX8_stepsDown 0 = .ok (.aload_n 0, 1) := by decide +kernel
theorem dX8_stepsDown_1 : decode cX8_stepsDown 1 = .ok (.getfield 22, 3) := by decide +kernel
theorem dX8_stepsDown_4 : decode cX8_stepsDown 4 = .ok (.iload_n 1, 1) := by decide +kernel
theorem dX8_stepsDown_5 : decode cX8_stepsDown 5 = .ok (.iaload, 1) := by decide +kernel
theorem dX8_stepsDown_6 : decode cX8_stepsDown 6 = .ok (.ifCond .ne 28, 3) := by decide +kernel
theorem dX8_stepsDown_9 : decode cX8_stepsDown 9 = .ok (.aload_n 0, 1) := by decide +kernel
theorem dX8_stepsDown_10 : decode cX8_stepsDown 10 = .ok (.iload_n 1, 1) := by decide +kernel
theorem dX8_stepsDown_11 : decode cX8_stepsDown 11 = .ok (.invokevirtual 134, 3) := by decide +kernel
theorem dX8_stepsDown_14 : decode cX8_stepsDown 14 = .ok (.aload_n 0, 1) := by decide +kernel
theorem dX8_stepsDown_15 : decode cX8_stepsDown 15 = .ok (.iload_n 1, 1) := by decide +kernel
theorem dX8_stepsDown_16 : decode cX8_stepsDown 16 = .ok (.invokevirtual 138, 3) := by decide +kernel
theorem dX8_stepsDown_19 : decode cX8_stepsDown 19 = .ok (.aload_n 0, 1) := by decide +kernel
theorem dX8_stepsDown_20 : decode cX8_stepsDown 20 = .ok (.getfield 22, 3) := by decide +kernel
theorem dX8_stepsDown_23 : decode cX8_stepsDown 23 = .ok (.iload_n 1, 1) := by decide +kernel
theorem dX8_stepsDown_24 : decode cX8_stepsDown 24 = .ok (.aload_n 0, 1) := by decide +kernel
theorem dX8_stepsDown_25 : decode cX8_stepsDown 25 = .ok (.getfield 13, 3) := by decide +kernel
theorem dX8_stepsDown_28 : decode cX8_stepsDown 28 = .ok (.iload_n 1, 1) := by decide +kernel
theorem dX8_stepsDown_29 : decode cX8_stepsDown 29 = .ok (.iaload, 1) := by decide +kernel
theorem dX8_stepsDown_30 : decode cX8_stepsDown 30 = .ok (.iastore, 1) := by decide +kernel
theorem dX8_stepsDown_31 : decode cX8_stepsDown 31 = .ok (.goto 13, 3) := by decide +kernel
theorem dX8_stepsDown_34 : decode cX8_stepsDown 34 = .ok (.aload_n 0, 1) := by decide +kernel
theorem dX8_stepsDown_35 : decode cX8_stepsDown 35 = .ok (.getfield 22, 3) := by decide +kernel
theorem dX8_stepsDown_38 : decode cX8_stepsDown 38 = .ok (.iload_n 1, 1) := by decide +kernel
theorem dX8_stepsDown_39 : decode cX8_stepsDown 39 = .ok (.dup2, 1) := by decide +kernel
theorem dX8_stepsDown_40 : decode cX8_stepsDown 40 = .ok (.iaload, 1) := by decide +kernel
theorem dX8_stepsDown_41 : decode cX8_stepsDown 41 = .ok (.iconst 1, 1) := by decide +kernel
theorem dX8_stepsDown_42 : decode cX8_stepsDown 42 = .ok (.isub, 1) := by decide +kernel
theorem dX8_stepsDown_43 : decode cX8_stepsDown 43 = .ok (.iastore, 1) := by decide +kernel
theorem dX8_stepsDown_44 : decode cX8_stepsDown 44 = .ok (.return_, 1) := by decide +kernel
set_option maxRecDepth 20000 in
theorem ggX8_stepsBoth_X8_goesOver : GoodIn wsX8_stepsBoth wsX8_goesOver := goodIn_r _ [8, 9, 10, 16, 17, 18, 19, 20, 21, 22, 23, 24, 25, 26, 27, 28, 29, 30, 31, 32, 33, 34, 35, 36, 37, 38, 39, 40, 41, 42, 43, 44, 45, 46, 47, 48, 49, 50, 51, 52, 53, 54, 55, 56, 57, 58, 59, 60] (by decide +kernel) (by decide +kernel)
set_option maxRecDepth 20000 in
theorem gX8_stepsBoth_X8_goesOver : GoodIn wsX8_stepsBoth (wsV RX8 134 RX8 yX8_goesOver wsX8_goesOver) := goodIn_app (goodIn_of _ (by decide +kernel)) ggX8_stepsBoth_X8_goesOver
set_option maxRecDepth 20000 in
theorem ggX8_stepsBoth_X8_takesTop : GoodIn wsX8_stepsBoth wsX8_takesTop := goodIn_r _ [14, 3, 15, 16, 17, 18, 19, 20, 21, 22, 23, 24, 25, 26, 27, 28, 29, 30, 31, 32, 33, 34, 35, 36, 37, 38, 39, 40, 41, 42, 43, 44, 45, 46, 47, 48, 49, 50, 51, 52, 53, 54, 55, 56, 57, 58, 59, 60] (by decide +kernel) (by decide +kernel)
set_option maxRecDepth 20000 in
theorem gX8_stepsBoth_X8_takesTop : GoodIn wsX8_stepsBoth (wsV RX8 138 RX8 yX8_takesTop wsX8_takesTop) := goodIn_app (goodIn_of _ (by decide +kernel)) ggX8_stepsBoth_X8_takesTop
theorem dX8_stepsBoth_0 : decode cX8_stepsBoth 0 = .ok (.aload_n 0, 1) := by decide +kernel
theorem dX8_stepsBoth_1 : decode cX8_stepsBoth 1 = .ok (.getfield 28, 3) := by decide +kernel
theorem dX8_stepsBoth_4 : decode cX8_stepsBoth 4 = .ok (.iload_n 1, 1) := by decide +kernel
theorem dX8_stepsBoth_5 : decode cX8_stepsBoth 5 = .ok (.iaload, 1) := by decide +kernel
theorem dX8_stepsBoth_6 : decode cX8_stepsBoth 6 = .ok (.iconst 1, 1) := by decide +kernel
theorem dX8_stepsBoth_7 : decode cX8_stepsBoth 7 = .ok (.if_icmp .ne 33, 3) := by decide +kernel
theorem dX8_stepsBoth_10 : decode cX8_stepsBoth 10 = .ok (.aload_n 0, 1) := by decide +kernel
theorem dX8_stepsBoth_11 : decode cX8_stepsBoth 11 = .ok (.getfield 22, 3) := by decide +kernel
theorem dX8_stepsBoth_14 : decode cX8_stepsBoth 14 = .ok (.iload_n 1, 1) := by decide +kernel
theorem dX8_stepsBoth_15 : decode cX8_stepsBoth 15 = .ok (.iaload, 1) := by decide +kernel
theorem dX8_stepsBoth_16 : decode cX8_stepsBoth 16 = .ok (.aload_n 0, 1) := by decide +kernel
theorem dX8_stepsBoth_17 : decode cX8_stepsBoth 17 = .ok (.getfield 13, 3) := by decide +kernel
theorem dX8_stepsBoth_20 : decode cX8_stepsBoth 20 = .ok (.iload_n 1, 1) := by decide +kernel
theorem dX8_stepsBoth_21 : decode cX8_stepsBoth 21 = .ok (.iaload, 1) := by decide +kernel
theorem dX8_stepsBoth_22 : decode cX8_stepsBoth 22 = .ok (.if_icmp .ne 18, 3) := by decide +kernel
theorem dX8_stepsBoth_25 : decode cX8_stepsBoth 25 = .ok (.aload_n 0, 1) := by decide +kernel
theorem dX8_stepsBoth_26 : decode cX8_stepsBoth 26 = .ok (.iload_n 1, 1) := by decide +kernel
theorem dX8_stepsBoth_27 : decode cX8_stepsBoth 27 = .ok (.invokevirtual 134, 3) := by decide +kernel
theorem dX8_stepsBoth_30 : decode cX8_stepsBoth 30 = .ok (.aload_n 0, 1) := by decide +kernel
theorem dX8_stepsBoth_31 : decode cX8_stepsBoth 31 = .ok (.getfield 28, 3) := by decide +kernel
theorem dX8_stepsBoth_34 : decode cX8_stepsBoth 34 = .ok (.iload_n 1, 1) := by decide +kernel
theorem dX8_stepsBoth_35 : decode cX8_stepsBoth 35 = .ok (.iconst 0, 1) := by decide +kernel
theorem dX8_stepsBoth_36 : decode cX8_stepsBoth 36 = .ok (.iastore, 1) := by decide +kernel
theorem dX8_stepsBoth_37 : decode cX8_stepsBoth 37 = .ok (.goto 38, 3) := by decide +kernel
theorem dX8_stepsBoth_40 : decode cX8_stepsBoth 40 = .ok (.aload_n 0, 1) := by decide +kernel
theorem dX8_stepsBoth_41 : decode cX8_stepsBoth 41 = .ok (.getfield 28, 3) := by decide +kernel
theorem dX8_stepsBoth_44 : decode cX8_stepsBoth 44 = .ok (.iload_n 1, 1) := by decide +kernel
theorem dX8_stepsBoth_45 : decode cX8_stepsBoth 45 = .ok (.iaload, 1) := by decide +kernel
theorem dX8_stepsBoth_46 : decode cX8_stepsBoth 46 = .ok (.ifCond .ne 29, 3) := by decide +kernel
theorem dX8_stepsBoth_49 : decode cX8_stepsBoth 49 = .ok (.aload_n 0, 1) := by decide +kernel
theorem dX8_stepsBoth_50 : decode cX8_stepsBoth 50 = .ok (.getfield 22, 3) := by decide +kernel
theorem dX8_stepsBoth_53 : decode cX8_stepsBoth 53 = .ok (.iload_n 1, 1) := by decide +kernel
theorem dX8_stepsBoth_54 : decode cX8_stepsBoth 54 = .ok (.iaload, 1) := by decide +kernel
theorem dX8_stepsBoth_55 : decode cX8_stepsBoth 55 = .ok (.ifCond .ne 20, 3) := by decide +kernel
theorem dX8_stepsBoth_58 : decode cX8_stepsBoth 58 = .ok (.aload_n 0, 1) := by decide +kernel
theorem dX8_stepsBoth_59 : decode cX8_stepsBoth 59 = .ok (.iload_n 1, 1) := by decide +kernel
theorem dX8_stepsBoth_60 : decode cX8_stepsBoth 60 = .ok (.invokevirtual 134, 3) := by decide +kernel
theorem dX8_stepsBoth_63 : decode cX8_stepsBoth 63 = .ok (.aload_n 0, 1) := by decide +kernel
theorem dX8_stepsBoth_64 : decode cX8_stepsBoth 64 = .ok (.getfield 28, 3) := by decide +kernel
theorem dX8_stepsBoth_67 : decode cX8_stepsBoth 67 = .ok (.iload_n 1, 1) := by decide +kernel
theorem dX8_stepsBoth_68 : decode cX8_stepsBoth 68 = .ok (.iconst 1, 1) := by decide +kernel
theorem dX8_stepsBoth_69 : decode cX8_stepsBoth 69 = .ok (.iastore, 1) := by decide +kernel
theorem dX8_stepsBoth_70 : decode cX8_stepsBoth 70 = .ok (.aload_n 0, 1) := by decide +kernel
theorem dX8_stepsBoth_71 : decode cX8_stepsBoth 71 = .ok (.iload_n 1, 1) := by decide +kernel
theorem dX8_stepsBoth_72 : decode cX8_stepsBoth 72 = .ok (.invokevirtual 138, 3) := by decide +kernel
theorem dX8_stepsBoth_75 : decode cX8_stepsBoth 75 = .ok (.aload_n 0, 1) := by decide +kernel
theorem dX8_stepsBoth_76 : decode cX8_stepsBoth 76 = .ok (.getfield 22, 3) := by decide +kernel
theorem dX8_stepsBoth_79 : decode cX8_stepsBoth 79 = .ok (.iload_n 1, 1) := by decide +kernel
theorem dX8_stepsBoth_80 : decode cX8_stepsBoth 80 = .ok (.dup2, 1) := by decide +kernel
theorem dX8_stepsBoth_81 : decode cX8_stepsBoth 81 = .ok (.iaload, 1) := by decide +kernel
theorem dX8_stepsBoth_82 : decode cX8_stepsBoth 82 = .ok (.aload_n 0, 1) := by decide +kernel
theorem dX8_stepsBoth_83 : decode cX8_stepsBoth 83 = .ok (.getfield 28, 3) := by decide +kernel
theorem dX8_stepsBoth_86 : decode cX8_stepsBoth 86 = .ok (.iload_n 1, 1) := by decide +kernel
theorem dX8_stepsBoth_87 : decode cX8_stepsBoth 87 = .ok (.iaload, 1) := by decide +kernel
theorem dX8_stepsBoth_88 : decode cX8_stepsBoth 88 = .ok (.iconst 1, 1) := by decide +kernel
theorem dX8_stepsBoth_89 : decode cX8_stepsBoth 89 = .ok (.if_icmp .ne 7, 3) := by decide +kernel
theorem dX8_stepsBoth_92 : decode cX8_stepsBoth 92 = .ok (.iconst 1, 1) := by decide +kernel
theorem dX8_stepsBoth_93 : decode cX8_stepsBoth 93 = .ok (.goto 4, 3) := by decide +kernel
theorem dX8_stepsBoth_96 : decode cX8_stepsBoth 96 = .ok (.iconst (-1), 1) := by decide +kernel
theorem dX8_stepsBoth_97 : decode cX8_stepsBoth 97 = .ok (.iadd, 1) := by decide +kernel
theorem dX8_stepsBoth_98 : decode cX8_stepsBoth 98 = .ok (.iastore, 1) := by decide +kernel
theorem dX8_stepsBoth_99 : decode cX8_stepsBoth 99 = .ok (.return_, 1) := by decide +kernel
set_option maxRecDepth 20000 in
theorem ggX8_steps_X8_stepsUp : GoodIn wsX8_steps wsX8_stepsUp := goodIn_r _ [7, 8, 9, 10, 11, 12, 6, 13, 14, 15, 16, 17, 18, 19, 20, 30, 31, 32, 33, 34, 35, 36, 37, 38, 39, 40, 41, 42, 43, 44, 45, 46, 47, 48, 49, 50, 51, 52, 53, 54, 55, 56, 57, 58, 59, 60, 61, 62, 63, 64, 65, 66, 67, 68, 69, 70, 71, 72, 73, 74] (by decide +kernel) (by decide +kernel)
set_option maxRecDepth 20000 in
theorem gX8_steps_X8_stepsUp : GoodIn wsX8_steps (wsV RX8 141 RX8 yX8_stepsUp wsX8_stepsUp) := goodIn_app (goodIn_of _ (by decide +kernel)) ggX8_steps_X8_stepsUp
set_option maxRecDepth 20000 in
theorem ggX8_steps_X8_stepsDown : GoodIn wsX8_steps wsX8_stepsDown := goodIn_r _ [24, 8, 9, 10, 11, 12, 6, 13, 14, 15, 16, 17, 18, 19, 20, 30, 31, 32, 33, 34, 35, 36, 37, 38, 39, 40, 41, 42, 43, 44, 45, 46, 47, 48, 49, 50, 51, 52, 53, 54, 55, 56, 57, 58, 59, 60, 61, 62, 63, 64, 65, 66, 67, 68, 69, 70, 71, 72, 73, 74] (by decide +kernel) (by decide +kernel)
set_option maxRecDepth 20000 in
theorem gX8_steps_X8_stepsDown : GoodIn wsX8_steps (wsV RX8 144 RX8 yX8_stepsDown wsX8_stepsDown) := goodIn_app (goodIn_of _ (by decide +kernel)) ggX8_steps_X8_stepsDown
set_option maxRecDepth 20000 in
theorem ggX8_steps_X8_stepsBoth : GoodIn wsX8_steps wsX8_stepsBoth := goodIn_r _ [28, 29, 8, 9, 10, 11, 12, 6, 13, 14, 15, 16, 17, 18, 19, 20, 30, 31, 32, 33, 34, 35, 36, 37, 38, 39, 40, 41, 42, 43, 44, 45, 46, 47, 48, 49, 50, 51, 52, 53, 54, 55, 56, 57, 58, 59, 60, 61, 62, 63, 64, 65, 66, 67, 68, 69, 70, 71, 72, 73, 74] (by decide +kernel) (by decide +kernel)
set_option maxRecDepth 20000 in
theorem gX8_steps_X8_stepsBoth : GoodIn wsX8_steps (wsV RX8 147 RX8 yX8_stepsBoth wsX8_stepsBoth) := goodIn_app (goodIn_of _ (by decide +kernel)) ggX8_steps_X8_stepsBoth
theorem dX8_steps_0 : decode cX8_steps 0 = .ok (.aload_n 0, 1) := by decide +kernel
theorem dX8_steps_1 : decode cX8_steps 1 = .ok (.getfield 37, 3) := by decide +kernel
theorem dX8_steps_4 : decode cX8_steps 4 = .ok (.iload_n 1, 1) := by decide +kernel
theorem dX8_steps_5 : decode cX8_steps 5 = .ok (.iconst 1, 1) := by decide +kernel
theorem dX8_steps_6 : decode cX8_steps 6 = .ok (.bastore, 1) := by decide +kernel
theorem dX8_steps_7 : decode cX8_steps 7 = .ok (.aload_n 0, 1) := by decide +kernel
theorem dX8_steps_8 : decode cX8_steps 8 = .ok (.getfield 7, 3) := by decide +kernel
theorem dX8_steps_11 : decode cX8_steps 11 = .ok (.iload_n 1, 1) := by decide +kernel
theorem dX8_steps_12 : decode cX8_steps 12 = .ok (.iaload, 1) := by decide +kernel
theorem dX8_steps_13 : decode cX8_steps 13 = .ok (.ifCond .ne 11, 3) := by decide +kernel
theorem dX8_steps_16 : decode cX8_steps 16 = .ok (.aload_n 0, 1) := by decide +kernel
theorem dX8_steps_17 : decode cX8_steps 17 = .ok (.iload_n 1, 1) := by decide +kernel
theorem dX8_steps_18 : decode cX8_steps 18 = .ok (.invokevirtual 141, 3) := by decide +kernel
theorem dX8_steps_21 : decode cX8_steps 21 = .ok (.goto 26, 3) := by decide +kernel
theorem dX8_steps_24 : decode cX8_steps 24 = .ok (.aload_n 0, 1) := by decide +kernel
theorem dX8_steps_25 : decode cX8_steps 25 = .ok (.getfield 7, 3) := by decide +kernel
theorem dX8_steps_28 : decode cX8_steps 28 = .ok (.iload_n 1, 1) := by decide +kernel
theorem dX8_steps_29 : decode cX8_steps 29 = .ok (.iaload, 1) := by decide +kernel
theorem dX8_steps_30 : decode cX8_steps 30 = .ok (.iconst 1, 1) := by decide +kernel
theorem dX8_steps_31 : decode cX8_steps 31 = .ok (.if_icmp .ne 11, 3) := by decide +kernel
theorem dX8_steps_34 : decode cX8_steps 34 = .ok (.aload_n 0, 1) := by decide +kernel
theorem dX8_steps_35 : decode cX8_steps 35 = .ok (.iload_n 1, 1) := by decide +kernel
theorem dX8_steps_36 : decode cX8_steps 36 = .ok (.invokevirtual 144, 3) := by decide +kernel
theorem dX8_steps_39 : decode cX8_steps 39 = .ok (.goto 8, 3) := by decide +kernel
theorem dX8_steps_42 : decode cX8_steps 42 = .ok (.aload_n 0, 1) := by decide +kernel
theorem dX8_steps_43 : decode cX8_steps 43 = .ok (.iload_n 1, 1) := by decide +kernel
theorem dX8_steps_44 : decode cX8_steps 44 = .ok (.invokevirtual 147, 3) := by decide +kernel
theorem dX8_steps_47 : decode cX8_steps 47 = .ok (.return_, 1) := by decide +kernel
set_option maxRecDepth 20000 in
theorem ggX8_counters_X8_hasPulse : GoodIn wsX8_counters wsX8_hasPulse := goodIn_r _ [9, 10, 2, 11, 42, 43, 44, 45, 46, 47, 48, 49, 50, 51, 52, 53, 54, 55, 56, 57, 58, 59, 60, 61, 62, 63, 64, 65, 66, 67, 68, 69, 70, 71, 72, 73, 74, 75, 76, 77, 78, 79, 80, 81, 82, 83, 84, 85, 86] (by decide +kernel) (by decide +kernel)
set_option maxRecDepth 20000 in
theorem gX8_counters_X8_hasPulse : GoodIn wsX8_counters (wsV RX8 150 RX8 yX8_hasPulse wsX8_hasPulse) := goodIn_app (goodIn_of _ (by decide +kernel)) ggX8_counters_X8_hasPulse
set_option maxRecDepth 20000 in
theorem ggX8_counters_X8_steps : GoodIn wsX8_counters wsX8_steps := goodIn_r _ [15, 1, 16, 17, 18, 19, 8, 20, 21, 22, 23, 24, 25, 26, 2, 27, 28, 29, 30, 31, 32, 33, 34, 35, 36, 37, 38, 39, 40, 41, 42, 43, 44, 45, 46, 47, 48, 49, 50, 51, 52, 53, 54, 55, 56, 57, 58, 59, 60, 61, 62, 63, 64, 65, 66, 67, 68, 69, 70, 71, 72, 73, 74, 75, 76, 77, 78, 79, 80, 81, 82, 83, 84, 85, 86] (by decide +kernel) (by decide +kernel)
set_option maxRecDepth 20000 in
theorem gX8_counters_X8_steps : GoodIn wsX8_counters (wsV RX8 153 RX8 yX8_steps wsX8_steps) := goodIn_app (goodIn_of _ (by decide +kernel)) ggX8_counters_X8_steps
theorem dX8_counters_0 : decode cX8_counters 0 = .ok (.iconst 0, 1) := by decide +kernel
theorem dX8_counters_1 : decode cX8_counters 1 = .ok (.istore_n 1, 1) := by decide +kernel
theorem dX8_counters_2 : decode cX8_counters 2 = .ok (.iload_n 1, 1) := by decide +kernel
theorem dX8_counters_3 : decode cX8_counters 3 = .ok (.iconst 4, 1) := by decide +kernel
theorem dX8_counters_4 : decode cX8_counters 4 = .ok (.if_icmp .ge 68, 3) := by decide +kernel
theorem dX8_counters_7 : decode cX8_counters 7 = .ok (.aload_n 0, 1) := by decide +kernel
theorem dX8_counters_8 : decode cX8_counters 8 = .ok (.getfield 37, 3) := by decide +kernel
theorem dX8_counters_11 : decode cX8_counters 11 = .ok (.iload_n 1, 1) := by decide +kernel
theorem dX8_counters_12 : decode cX8_counters 12 = .ok (.iconst 0, 1) := by decide +kernel
theorem dX8_counters_13 : decode cX8_counters 13 = .ok (.bastore, 1) := by decide +kernel
theorem dX8_counters_14 : decode cX8_counters 14 = .ok (.aload_n 0, 1) := by decide +kernel
theorem dX8_counters_15 : decode cX8_counters 15 = .ok (.getfield 41, 3) := by decide +kernel
theorem dX8_counters_18 : decode cX8_counters 18 = .ok (.iload_n 1, 1) := by decide +kernel
theorem dX8_counters_19 : decode cX8_counters 19 = .ok (.iconst 0, 1) := by decide +kernel
theorem dX8_counters_20 : decode cX8_counters 20 = .ok (.bastore, 1) := by decide +kernel
theorem dX8_counters_21 : decode cX8_counters 21 = .ok (.aload_n 0, 1) := by decide +kernel
theorem dX8_counters_22 : decode cX8_counters 22 = .ok (.iload_n 1, 1) := by decide +kernel
theorem dX8_counters_23 : decode cX8_counters 23 = .ok (.invokevirtual 150, 3) := by decide +kernel
theorem dX8_counters_26 : decode cX8_counters 26 = .ok (.ifCond .eq 40, 3) := by decide +kernel
theorem dX8_counters_29 : decode cX8_counters 29 = .ok (.aload_n 0, 1) := by decide +kernel
theorem dX8_counters_30 : decode cX8_counters 30 = .ok (.getfield 25, 3) := by decide +kernel
theorem dX8_counters_33 : decode cX8_counters 33 = .ok (.iload_n 1, 1) := by decide +kernel
theorem dX8_counters_34 : decode cX8_counters 34 = .ok (.dup2, 1) := by decide +kernel
theorem dX8_counters_35 : decode cX8_counters 35 = .ok (.iaload, 1) := by decide +kernel
theorem dX8_counters_36 : decode cX8_counters 36 = .ok (.iconst 1, 1) := by decide +kernel
theorem dX8_counters_37 : decode cX8_counters 37 = .ok (.iadd, 1) := by decide +kernel
theorem dX8_counters_38 : decode cX8_counters 38 = .ok (.iastore, 1) := by decide +kernel
theorem dX8_counters_39 : decode cX8_counters 39 = .ok (.aload_n 0, 1) := by decide +kernel
theorem dX8_counters_40 : decode cX8_counters 40 = .ok (.getfield 25, 3) := by decide +kernel
theorem dX8_counters_43 : decode cX8_counters 43 = .ok (.iload_n 1, 1) := by decide +kernel
theorem dX8_counters_44 : decode cX8_counters 44 = .ok (.iaload, 1) := by decide +kernel
theorem dX8_counters_45 : decode cX8_counters 45 = .ok (.aload_n 0, 1) := by decide +kernel
theorem dX8_counters_46 : decode cX8_counters 46 = .ok (.getfield 16, 3) := by decide +kernel
theorem dX8_counters_49 : decode cX8_counters 49 = .ok (.iload_n 1, 1) := by decide +kernel
theorem dX8_counters_50 : decode cX8_counters 50 = .ok (.iaload, 1) := by decide +kernel
theorem dX8_counters_51 : decode cX8_counters 51 = .ok (.if_icmp .ne 15, 3) := by decide +kernel
theorem dX8_counters_54 : decode cX8_counters 54 = .ok (.aload_n 0, 1) := by decide +kernel
theorem dX8_counters_55 : decode cX8_counters 55 = .ok (.getfield 25, 3) := by decide +kernel
theorem dX8_counters_58 : decode cX8_counters 58 = .ok (.iload_n 1, 1) := by decide +kernel
theorem dX8_counters_59 : decode cX8_counters 59 = .ok (.iconst 0, 1) := by decide +kernel
theorem dX8_counters_60 : decode cX8_counters 60 = .ok (.iastore, 1) := by decide +kernel
theorem dX8_counters_61 : decode cX8_counters 61 = .ok (.aload_n 0, 1) := by decide +kernel
theorem dX8_counters_62 : decode cX8_counters 62 = .ok (.iload_n 1, 1) := by decide +kernel
theorem dX8_counters_63 : decode cX8_counters 63 = .ok (.invokevirtual 153, 3) := by decide +kernel
theorem dX8_counters_66 : decode cX8_counters 66 = .ok (.iinc 1 1, 3) := by decide +kernel
theorem dX8_counters_69 : decode cX8_counters 69 = .ok (.goto (-67), 3) := by decide +kernel
theorem dX8_counters_72 : decode cX8_counters 72 = .ok (.return_, 1) := by decide +kernel
set_option maxRecDepth 20000 in
theorem ggX8_input_X8_isOne : GoodIn wsX8_input wsX8_isOne := goodIn_r _ [5, 6, 7, 4, 8] (by decide +kernel) (by decide +kernel)
set_option maxRecDepth 20000 in
theorem gX8_input_X8_isOne : GoodIn wsX8_input (va_wsS RX8 130 yX8_isOne wsX8_isOne) := goodIn_app (goodIn_of _ (by decide +kernel)) ggX8_input_X8_isOne
set_option maxRecDepth 20000 in
theorem ggX8_input_X8_within : GoodIn wsX8_input wsX8_within := goodIn_r _ [8] (by decide +kernel) (by decide +kernel)
set_option maxRecDepth 20000 in
theorem gX8_input_X8_within : GoodIn wsX8_input (va_wsS RX8 126 yX8_within wsX8_within) := goodIn_app (goodIn_of _ (by decide +kernel)) ggX8_input_X8_within
theorem dX8_input_0 : decode cX8_input 0 = .ok (.iload_n 1, 1) := by decide +kernel
theorem dX8_input_1 : decode cX8_input 1 = .ok (.invokestatic 130, 3) := by decide +kernel
theorem dX8_input_4 : decode cX8_input 4 = .ok (.ifCond .ne 5, 3) := by decide +kernel
theorem dX8_input_7 : decode cX8_input 7 = .ok (.iconst (-1), 1) := by decide +kernel
theorem dX8_input_8 : decode cX8_input 8 = .ok (.ireturn, 1) := by decide +kernel
theorem dX8_input_9 : decode cX8_input 9 = .ok (.iload_n 2, 1) := by decide +kernel
theorem dX8_input_10 : decode cX8_input 10 = .ok (.iconst 0, 1) := by decide +kernel
theorem dX8_input_11 : decode cX8_input 11 = .ok (.iconst 1, 1) := by decide +kernel
theorem dX8_input_12 : decode cX8_input 12 = .ok (.invokestatic 126, 3) := by decide +kernel
theorem dX8_input_15 : decode cX8_input 15 = .ok (.ifCond .ne 6, 3) := by decide +kernel
theorem dX8_input_18 : decode cX8_input 18 = .ok (.bipush (-2), 2) := by decide +kernel
theorem dX8_input_20 : decode cX8_input 20 = .ok (.ireturn, 1) := by decide +kernel
theorem dX8_input_21 : decode cX8_input 21 = .ok (.aload_n 0, 1) := by decide +kernel
theorem dX8_input_22 : decode cX8_input 22 = .ok (.getfield 44, 3) := by decide +kernel
theorem dX8_input_25 : decode cX8_input 25 = .ok (.iload_n 1, 1) := by decide +kernel
theorem dX8_input_26 : decode cX8_input 26 = .ok (.iaload, 1) := by decide +kernel
theorem dX8_input_27 : decode cX8_input 27 = .ok (.istore_n 3, 1) := by decide +kernel
theorem dX8_input_28 : decode cX8_input 28 = .ok (.aload_n 0, 1) := by decide +kernel
theorem dX8_input_29 : decode cX8_input 29 = .ok (.getfield 44, 3) := by decide +kernel
theorem dX8_input_32 : decode cX8_input 32 = .ok (.iload_n 1, 1) := by decide +kernel
theorem dX8_input_33 : decode cX8_input 33 = .ok (.iload_n 2, 1) := by decide +kernel
theorem dX8_input_34 : decode cX8_input 34 = .ok (.iastore, 1) := by decide +kernel
theorem dX8_input_35 : decode cX8_input 35 = .ok (.iload_n 3, 1) := by decide +kernel
theorem dX8_input_36 : decode cX8_input 36 = .ok (.ireturn, 1) := by decide +kernel
set_option maxRecDepth 20000 in
theorem ggX8_filter_X8_isOne : GoodIn wsX8_filter wsX8_isOne := goodIn_r _ [5, 6, 7, 4, 8] (by decide +kernel) (by decide +kernel)
set_option maxRecDepth 20000 in
theorem gX8_filter_X8_isOne : GoodIn wsX8_filter (va_wsS RX8 130 yX8_isOne wsX8_isOne) := goodIn_app (goodIn_of _ (by decide +kernel)) ggX8_filter_X8_isOne
set_option maxRecDepth 20000 in
theorem ggX8_filter_X8_within : GoodIn wsX8_filter wsX8_within := goodIn_r _ [8] (by decide +kernel) (by decide +kernel)
set_option maxRecDepth 20000 in
theorem gX8_filter_X8_within : GoodIn wsX8_filter (va_wsS RX8 126 yX8_within wsX8_within) := goodIn_app (goodIn_of _ (by decide +kernel)) ggX8_filter_X8_within
theorem dX8_filter_0 : decode cX8_filter 0 = .ok (.iload_n 1, 1) := by decide +kernel
theorem dX8_filter_1 : decode cX8_filter 1 = .ok (.invokestatic 130, 3) := by decide +kernel
theorem dX8_filter_4 : decode cX8_filter 4 = .ok (.ifCond .ne 5, 3) := by decide +kernel
theorem dX8_filter_7 : decode cX8_filter 7 = .ok (.iconst (-1), 1) := by decide +kernel
theorem dX8_filter_8 : decode cX8_filter 8 = .ok (.ireturn, 1) := by decide +kernel
theorem dX8_filter_9 : decode cX8_filter 9 = .ok (.iload_n 2, 1) := by decide +kernel
theorem dX8_filter_10 : decode cX8_filter 10 = .ok (.iconst 1, 1) := by decide +kernel
theorem dX8_filter_11 : decode cX8_filter 11 = .ok (.bipush 8, 2) := by decide +kernel
theorem dX8_filter_13 : decode cX8_filter 13 = .ok (.invokestatic 126, 3) := by decide +kernel
theorem dX8_filter_16 : decode cX8_filter 16 = .ok (.ifCond .ne 6, 3) := by decide +kernel
theorem dX8_filter_19 : decode cX8_filter 19 = .ok (.bipush (-2), 2) := by decide +kernel
theorem dX8_filter_21 : decode cX8_filter 21 = .ok (.ireturn, 1) := by decide +kernel
theorem dX8_filter_22 : decode cX8_filter 22 = .ok (.aload_n 0, 1) := by decide +kernel
theorem dX8_filter_23 : decode cX8_filter 23 = .ok (.getfield 50, 3) := by decide +kernel
theorem dX8_filter_26 : decode cX8_filter 26 = .ok (.iload_n 1, 1) := by decide +kernel
theorem dX8_filter_27 : decode cX8_filter 27 = .ok (.iaload, 1) := by decide +kernel
theorem dX8_filter_28 : decode cX8_filter 28 = .ok (.istore_n 3, 1) := by decide +kernel
theorem dX8_filter_29 : decode cX8_filter 29 = .ok (.aload_n 0, 1) := by decide +kernel
theorem dX8_filter_30 : decode cX8_filter 30 = .ok (.getfield 50, 3) := by decide +kernel
theorem dX8_filter_33 : decode cX8_filter 33 = .ok (.iload_n 1, 1) := by decide +kernel
theorem dX8_filter_34 : decode cX8_filter 34 = .ok (.iload_n 2, 1) := by decide +kernel
theorem dX8_filter_35 : decode cX8_filter 35 = .ok (.iastore, 1) := by decide +kernel
theorem dX8_filter_36 : decode cX8_filter 36 = .ok (.iload_n 3, 1) := by decide +kernel
theorem dX8_filter_37 : decode cX8_filter 37 = .ok (.ireturn, 1) := by decide +kernel
set_option maxRecDepth 20000 in
theorem ggX8_ofInput_X8_isOne : GoodIn wsX8_ofInput wsX8_isOne := goodIn_r _ [8, 9, 10, 7, 11] (by decide +kernel) (by decide +kernel)
set_option maxRecDepth 20000 in
theorem gX8_ofInput_X8_isOne : GoodIn wsX8_ofInput (va_wsS RX8 130 yX8_isOne wsX8_isOne) := goodIn_app (goodIn_of _ (by decide +kernel)) ggX8_ofInput_X8_isOne
theorem dX8_ofInput_0 : decode cX8_ofInput 0 = .ok (.iload_n 1, 1) := by decide +kernel
theorem dX8_ofInput_1 : decode cX8_ofInput 1 = .ok (.invokestatic 130, 3) := by decide +kernel
theorem dX8_ofInput_4 : decode cX8_ofInput 4 = .ok (.ifCond .ne 5, 3) := by decide +kernel
theorem dX8_ofInput_7 : decode cX8_ofInput 7 = .ok (.iconst (-1), 1) := by decide +kernel
theorem dX8_ofInput_8 : decode cX8_ofInput 8 = .ok (.ireturn, 1) := by decide +kernel
theorem dX8_ofInput_9 : decode cX8_ofInput 9 = .ok (.iload_n 2, 1) := by decide +kernel
theorem dX8_ofInput_10 : decode cX8_ofInput 10 = .ok (.tableswitch 58 0 3 #[30, 37, 44, 51], 30) := by decide +kernel
theorem dX8_ofInput_40 : decode cX8_ofInput 40 = .ok (.aload_n 0, 1) := by decide +kernel
theorem dX8_ofInput_41 : decode cX8_ofInput 41 = .ok (.getfield 44, 3) := by decide +kernel
theorem dX8_ofInput_44 : decode cX8_ofInput 44 = .ok (.iload_n 1, 1) := by decide +kernel
theorem dX8_ofInput_45 : decode cX8_ofInput 45 = .ok (.iaload, 1) := by decide +kernel
theorem dX8_ofInput_46 : decode cX8_ofInput 46 = .ok (.ireturn, 1) := by decide +kernel
theorem dX8_ofInput_47 : decode cX8_ofInput 47 = .ok (.aload_n 0, 1) := by decide +kernel
theorem dX8_ofInput_48 : decode cX8_ofInput 48 = .ok (.getfield 47, 3) := by decide +kernel
theorem dX8_ofInput_51 : decode cX8_ofInput 51 = .ok (.iload_n 1, 1) := by decide +kernel
theorem dX8_ofInput_52 : decode cX8_ofInput 52 = .ok (.iaload, 1) := by decide +kernel
theorem dX8_ofInput_53 : decode cX8_ofInput 53 = .ok (.ireturn, 1) := by decide +kernel
theorem dX8_ofInput_54 : decode cX8_ofInput 54 = .ok (.aload_n 0, 1) := by decide +kernel
theorem dX8_ofInput_55 : decode cX8_ofInput 55 = .ok (.getfield 53, 3) := by decide +kernel
theorem dX8_ofInput_58 : decode cX8_ofInput 58 = .ok (.iload_n 1, 1) := by decide +kernel
theorem dX8_ofInput_59 : decode cX8_ofInput 59 = .ok (.iaload, 1) := by decide +kernel
theorem dX8_ofInput_60 : decode cX8_ofInput 60 = .ok (.ireturn, 1) := by decide +kernel
theorem dX8_ofInput_61 : decode cX8_ofInput 61 = .ok (.aload_n 0, 1) := by decide +kernel
theorem dX8_ofInput_62 : decode cX8_ofInput 62 = .ok (.getfield 50, 3) := by decide +kernel
theorem dX8_ofInput_65 : decode cX8_ofInput 65 = .ok (.iload_n 1, 1) := by decide +kernel
theorem dX8_ofInput_66 : decode cX8_ofInput 66 = .ok (.iaload, 1) := by decide +kernel
theorem dX8_ofInput_67 : decode cX8_ofInput 67 = .ok (.ireturn, 1) := by decide +kernel
theorem dX8_ofInput_68 : decode cX8_ofInput 68 = .ok (.bipush (-2), 2) := by decide +kernel
theorem dX8_ofInput_70 : decode cX8_ofInput 70 = .ok (.ireturn, 1) := by decide +kernel
theorem dX8_inputs_0 : decode cX8_inputs 0 = .ok (.iconst 0, 1) := by decide +kernel
theorem dX8_inputs_1 : decode cX8_inputs 1 = .ok (.istore_n 1, 1) := by decide +kernel
theorem dX8_inputs_2 : decode cX8_inputs 2 = .ok (.iload_n 1, 1) := by decide +kernel
theorem dX8_inputs_3 : decode cX8_inputs 3 = .ok (.iconst 4, 1) := by decide +kernel
theorem dX8_inputs_4 : decode cX8_inputs 4 = .ok (.if_icmp .ge 104, 3) := by decide +kernel
theorem dX8_inputs_7 : decode cX8_inputs 7 = .ok (.aload_n 0, 1) := by decide +kernel
theorem dX8_inputs_8 : decode cX8_inputs 8 = .ok (.getfield 56, 3) := by decide +kernel
theorem dX8_inputs_11 : decode cX8_inputs 11 = .ok (.iload_n 1, 1) := by decide +kernel
theorem dX8_inputs_12 : decode cX8_inputs 12 = .ok (.iconst 0, 1) := by decide +kernel
theorem dX8_inputs_13 : decode cX8_inputs 13 = .ok (.iastore, 1) := by decide +kernel
theorem dX8_inputs_14 : decode cX8_inputs 14 = .ok (.aload_n 0, 1) := by decide +kernel
theorem dX8_inputs_15 : decode cX8_inputs 15 = .ok (.getfield 53, 3) := by decide +kernel
theorem dX8_inputs_18 : decode cX8_inputs 18 = .ok (.iload_n 1, 1) := by decide +kernel
theorem dX8_inputs_19 : decode cX8_inputs 19 = .ok (.aload_n 0, 1) := by decide +kernel
theorem dX8_inputs_20 : decode cX8_inputs 20 = .ok (.getfield 44, 3) := by decide +kernel
theorem dX8_inputs_23 : decode cX8_inputs 23 = .ok (.iload_n 1, 1) := by decide +kernel
theorem dX8_inputs_24 : decode cX8_inputs 24 = .ok (.iaload, 1) := by decide +kernel
theorem dX8_inputs_25 : decode cX8_inputs 25 = .ok (.aload_n 0, 1) := by decide +kernel
theorem dX8_inputs_26 : decode cX8_inputs 26 = .ok (.getfield 47, 3) := by decide +kernel
theorem dX8_inputs_29 : decode cX8_inputs 29 = .ok (.iload_n 1, 1) := by decide +kernel
theorem dX8_inputs_30 : decode cX8_inputs 30 = .ok (.iaload, 1) := by decide +kernel
theorem dX8_inputs_31 : decode cX8_inputs 31 = .ok (.if_icmp .ne 7, 3) := by decide +kernel
theorem dX8_inputs_34 : decode cX8_inputs 34 = .ok (.iconst 0, 1) := by decide +kernel
theorem dX8_inputs_35 : decode cX8_inputs 35 = .ok (.goto 11, 3) := by decide +kernel
theorem dX8_inputs_38 : decode cX8_inputs 38 = .ok (.aload_n 0, 1) := by decide +kernel
theorem dX8_inputs_39 : decode cX8_inputs 39 = .ok (.getfield 53, 3) := by decide +kernel
theorem dX8_inputs_42 : decode cX8_inputs 42 = .ok (.iload_n 1, 1) := by decide +kernel
theorem dX8_inputs_43 : decode cX8_inputs 43 = .ok (.iaload, 1) := by decide +kernel
theorem dX8_inputs_44 : decode cX8_inputs 44 = .ok (.iconst 1, 1) := by decide +kernel
theorem dX8_inputs_45 : decode cX8_inputs 45 = .ok (.iadd, 1) := by decide +kernel
theorem dX8_inputs_46 : decode cX8_inputs 46 = .ok (.iastore, 1) := by decide +kernel
theorem dX8_inputs_47 : decode cX8_inputs 47 = .ok (.aload_n 0, 1) := by decide +kernel
theorem dX8_inputs_48 : decode cX8_inputs 48 = .ok (.getfield 53, 3) := by decide +kernel
theorem dX8_inputs_51 : decode cX8_inputs 51 = .ok (.iload_n 1, 1) := by decide +kernel
theorem dX8_inputs_52 : decode cX8_inputs 52 = .ok (.iaload, 1) := by decide +kernel
theorem dX8_inputs_53 : decode cX8_inputs 53 = .ok (.aload_n 0, 1) := by decide +kernel
theorem dX8_inputs_54 : decode cX8_inputs 54 = .ok (.getfield 50, 3) := by decide +kernel
theorem dX8_inputs_57 : decode cX8_inputs 57 = .ok (.iload_n 1, 1) := by decide +kernel
theorem dX8_inputs_58 : decode cX8_inputs 58 = .ok (.iaload, 1) := by decide +kernel
theorem dX8_inputs_59 : decode cX8_inputs 59 = .ok (.if_icmp .lt 43, 3) := by decide +kernel
theorem dX8_inputs_62 : decode cX8_inputs 62 = .ok (.aload_n 0, 1) := by decide +kernel
theorem dX8_inputs_63 : decode cX8_inputs 63 = .ok (.getfield 47, 3) := by decide +kernel
theorem dX8_inputs_66 : decode cX8_inputs 66 = .ok (.iload_n 1, 1) := by decide +kernel
theorem dX8_inputs_67 : decode cX8_inputs 67 = .ok (.aload_n 0, 1) := by decide +kernel
theorem dX8_inputs_68 : decode cX8_inputs 68 = .ok (.getfield 44, 3) := by decide +kernel
theorem dX8_inputs_71 : decode cX8_inputs 71 = .ok (.iload_n 1, 1) := by decide +kernel
theorem dX8_inputs_72 : decode cX8_inputs 72 = .ok (.iaload, 1) := by decide +kernel
theorem dX8_inputs_73 : decode cX8_inputs 73 = .ok (.iastore, 1) := by decide +kernel
theorem dX8_inputs_74 : decode cX8_inputs 74 = .ok (.aload_n 0, 1) := by decide +kernel
theorem dX8_inputs_75 : decode cX8_inputs 75 = .ok (.getfield 53, 3) := by decide +kernel
theorem dX8_inputs_78 : decode cX8_inputs 78 = .ok (.iload_n 1, 1) := by decide +kernel
theorem dX8_inputs_79 : decode cX8_inputs 79 = .ok (.iconst 0, 1) := by decide +kernel
theorem dX8_inputs_80 : decode cX8_inputs 80 = .ok (.iastore, 1) := by decide +kernel
theorem dX8_inputs_81 : decode cX8_inputs 81 = .ok (.aload_n 0, 1) := by decide +kernel
theorem dX8_inputs_82 : decode cX8_inputs 82 = .ok (.getfield 56, 3) := by decide +kernel
theorem dX8_inputs_85 : decode cX8_inputs 85 = .ok (.iload_n 1, 1) := by decide +kernel
theorem dX8_inputs_86 : decode cX8_inputs 86 = .ok (.aload_n 0, 1) := by decide +kernel
theorem dX8_inputs_87 : decode cX8_inputs 87 = .ok (.getfield 44, 3) := by decide +kernel
theorem dX8_inputs_90 : decode cX8_inputs 90 = .ok (.iload_n 1, 1) := by decide +kernel
theorem dX8_inputs_91 : decode cX8_inputs 91 = .ok (.iaload, 1) := by decide +kernel
theorem dX8_inputs_92 : decode cX8_inputs 92 = .ok (.iconst 1, 1) := by decide +kernel
theorem dX8_inputs_93 : decode cX8_inputs 93 = .ok (.if_icmp .ne 7, 3) := by decide +kernel
theorem dX8_inputs_96 : decode cX8_inputs 96 = .ok (.iconst 1, 1) := by decide +kernel
theorem dX8_inputs_97 : decode cX8_inputs 97 = .ok (.goto 4, 3) := by decide +kernel
theorem dX8_inputs_100 : decode cX8_inputs 100 = .ok (.iconst 2, 1) := by decide +kernel
theorem dX8_inputs_101 : decode cX8_inputs 101 = .ok (.iastore, 1) := by decide +kernel
theorem dX8_inputs_102 : decode cX8_inputs 102 = .ok (.iinc 1 1, 3) := by decide +kernel
theorem dX8_inputs_105 : decode cX8_inputs 105 = .ok (.goto (-103), 3) := by decide +kernel
theorem dX8_inputs_108 : decode cX8_inputs 108 = .ok (.return_, 1) := by decide +kernel
set_option maxRecDepth 20000 in
theorem ggX8_catcher_X8_isOne : GoodIn wsX8_catcher wsX8_isOne := goodIn_r _ [11, 12, 13, 10, 14] (by decide +kernel) (by decide +kernel)
set_option maxRecDepth 20000 in
theorem gX8_catcher_X8_isOne : GoodIn wsX8_catcher (va_wsS RX8 130 yX8_isOne wsX8_isOne) := goodIn_app (goodIn_of _ (by decide +kernel)) ggX8_catcher_X8_isOne
set_option maxRecDepth 20000 in
theorem ggX8_catcher_X8_within : GoodIn wsX8_catcher wsX8_within := goodIn_r _ [14] (by decide +kernel) (by decide +kernel)
set_option maxRecDepth 20000 in
theorem gX8_catcher_X8_within : GoodIn wsX8_catcher (va_wsS RX8 126 yX8_within wsX8_within) := goodIn_app (goodIn_of _ (by decide +kernel)) ggX8_catcher_X8_within
theorem dX8_catcher_0 : decode cX8_catcher 0 = .ok (.iload_n 1, 1) := by decide +kernel
theorem dX8_catcher_1 : decode cX8_catcher 1 = .ok (.invokestatic 130, 3) := by decide +kernel
theorem dX8_catcher_4 : decode cX8_catcher 4 = .ok (.ifCond .eq 10, 3) := by decide +kernel
theorem dX8_catcher_7 : decode cX8_catcher 7 = .ok (.iload_n 2, 1) := by decide +kernel
theorem dX8_catcher_8 : decode cX8_catcher 8 = .ok (.invokestatic 130, 3) := by decide +kernel
theorem dX8_catcher_11 : decode cX8_catcher 11 = .ok (.ifCond .ne 5, 3) := by decide +kernel
theorem dX8_catcher_14 : decode cX8_catcher 14 = .ok (.iconst (-1), 1) := by decide +kernel
theorem dX8_catcher_15 : decode cX8_catcher 15 = .ok (.ireturn, 1) := by decide +kernel
theorem dX8_catcher_16 : decode cX8_catcher 16 = .ok (.iload_n 3, 1) := by decide +kernel
theorem dX8_catcher_17 : decode cX8_catcher 17 = .ok (.iconst 0, 1) := by decide +kernel
theorem dX8_catcher_18 : decode cX8_catcher 18 = .ok (.iconst 3, 1) := by decide +kernel
theorem dX8_catcher_19 : decode cX8_catcher 19 = .ok (.invokestatic 126, 3) := by decide +kernel
theorem dX8_catcher_22 : decode cX8_catcher 22 = .ok (.ifCond .eq 13, 3) := by decide +kernel
theorem dX8_catcher_25 : decode cX8_catcher 25 = .ok (.iload 4, 2) := by decide +kernel
theorem dX8_catcher_27 : decode cX8_catcher 27 = .ok (.iconst 1, 1) := by decide +kernel
theorem dX8_catcher_28 : decode cX8_catcher 28 = .ok (.iconst 4, 1) := by decide +kernel
theorem dX8_catcher_29 : decode cX8_catcher 29 = .ok (.invokestatic 126, 3) := by decide +kernel
theorem dX8_catcher_32 : decode cX8_catcher 32 = .ok (.ifCond .ne 6, 3) := by decide +kernel
theorem dX8_catcher_35 : decode cX8_catcher 35 = .ok (.bipush (-2), 2) := by decide +kernel
theorem dX8_catcher_37 : decode cX8_catcher 37 = .ok (.ireturn, 1) := by decide +kernel
theorem dX8_catcher_38 : decode cX8_catcher 38 = .ok (.aload_n 0, 1) := by decide +kernel
theorem dX8_catcher_39 : decode cX8_catcher 39 = .ok (.getfield 59, 3) := by decide +kernel
theorem dX8_catcher_42 : decode cX8_catcher 42 = .ok (.iload_n 1, 1) := by decide +kernel
theorem dX8_catcher_43 : decode cX8_catcher 43 = .ok (.iload_n 2, 1) := by decide +kernel
theorem dX8_catcher_44 : decode cX8_catcher 44 = .ok (.iastore, 1) := by decide +kernel
theorem dX8_catcher_45 : decode cX8_catcher 45 = .ok (.aload_n 0, 1) := by decide +kernel
theorem dX8_catcher_46 : decode cX8_catcher 46 = .ok (.getfield 62, 3) := by decide +kernel
theorem dX8_catcher_49 : decode cX8_catcher 49 = .ok (.iload_n 1, 1) := by decide +kernel
theorem dX8_catcher_50 : decode cX8_catcher 50 = .ok (.iload_n 3, 1) := by decide +kernel
theorem dX8_catcher_51 : decode cX8_catcher 51 = .ok (.iastore, 1) := by decide +kernel
theorem dX8_catcher_52 : decode cX8_catcher 52 = .ok (.aload_n 0, 1) := by decide +kernel
theorem dX8_catcher_53 : decode cX8_catcher 53 = .ok (.getfield 65, 3) := by decide +kernel
theorem dX8_catcher_56 : decode cX8_catcher 56 = .ok (.iload_n 1, 1) := by decide +kernel
theorem dX8_catcher_57 : decode cX8_catcher 57 = .ok (.iload 4, 2) := by decide +kernel
theorem dX8_catcher_59 : decode cX8_catcher 59 = .ok (.iastore, 1) := by decide +kernel
theorem dX8_catcher_60 : decode cX8_catcher 60 = .ok (.aload_n 0, 1) := by decide +kernel
theorem dX8_catcher_61 : decode cX8_catcher 61 = .ok (.getfield 68, 3) := by decide +kernel
theorem dX8_catcher_64 : decode cX8_catcher 64 = .ok (.iload_n 1, 1) := by decide +kernel
theorem dX8_catcher_65 : decode cX8_catcher 65 = .ok (.iconst 0, 1) := by decide +kernel
theorem dX8_catcher_66 : decode cX8_catcher 66 = .ok (.iastore, 1) := by decide +kernel
theorem dX8_catcher_67 : decode cX8_catcher 67 = .ok (.aload_n 0, 1) := by decide +kernel
theorem dX8_catcher_68 : decode cX8_catcher 68 = .ok (.getfield 71, 3) := by decide +kernel
theorem dX8_catcher_71 : decode cX8_catcher 71 = .ok (.iload_n 1, 1) := by decide +kernel
theorem dX8_catcher_72 : decode cX8_catcher 72 = .ok (.iconst 0, 1) := by decide +kernel
theorem dX8_catcher_73 : decode cX8_catcher 73 = .ok (.iastore, 1) := by decide +kernel
theorem dX8_catcher_74 : decode cX8_catcher 74 = .ok (.aload_n 0, 1) := by decide +kernel
theorem dX8_catcher_75 : decode cX8_catcher 75 = .ok (.getfield 74, 3) := by decide +kernel
theorem dX8_catcher_78 : decode cX8_catcher 78 = .ok (.iload_n 1, 1) := by decide +kernel
theorem dX8_catcher_79 : decode cX8_catcher 79 = .ok (.iconst 0, 1) := by decide +kernel
theorem dX8_catcher_80 : decode cX8_catcher 80 = .ok (.iastore, 1) := by decide +kernel
theorem dX8_catcher_81 : decode cX8_catcher 81 = .ok (.aload_n 0, 1) := by decide +kernel
theorem dX8_catcher_82 : decode cX8_catcher 82 = .ok (.getfield 77, 3) := by decide +kernel
theorem dX8_catcher_85 : decode cX8_catcher 85 = .ok (.iload_n 1, 1) := by decide +kernel
theorem dX8_catcher_86 : decode cX8_catcher 86 = .ok (.iconst 0, 1) := by decide +kernel
theorem dX8_catcher_87 : decode cX8_catcher 87 = .ok (.iastore, 1) := by decide +kernel
theorem dX8_catcher_88 : decode cX8_catcher 88 = .ok (.iconst 1, 1) := by decide +kernel
theorem dX8_catcher_89 : decode cX8_catcher 89 = .ok (.ireturn, 1) := by decide +kernel
set_option maxRecDepth 20000 in
theorem ggX8_taken_X8_isOne : GoodIn wsX8_taken wsX8_isOne := goodIn_r _ [6, 7, 8, 5, 9] (by decide +kernel) (by decide +kernel)
set_option maxRecDepth 20000 in
theorem gX8_taken_X8_isOne : GoodIn wsX8_taken (va_wsS RX8 130 yX8_isOne wsX8_isOne) := goodIn_app (goodIn_of _ (by decide +kernel)) ggX8_taken_X8_isOne
theorem dX8_taken_0 : decode cX8_taken 0 = .ok (.iload_n 1, 1) := by decide +kernel
theorem dX8_taken_1 : decode cX8_taken 1 = .ok (.invokestatic 130, 3) := by decide +kernel
theorem dX8_taken_4 : decode cX8_taken 4 = .ok (.ifCond .ne 5, 3) := by decide +kernel
theorem dX8_taken_7 : decode cX8_taken 7 = .ok (.iconst (-1), 1) := by decide +kernel
theorem dX8_taken_8 : decode cX8_taken 8 = .ok (.ireturn, 1) := by decide +kernel
theorem dX8_taken_9 : decode cX8_taken 9 = .ok (.aload_n 0, 1) := by decide +kernel
theorem dX8_taken_10 : decode cX8_taken 10 = .ok (.getfield 74, 3) := by decide +kernel
theorem dX8_taken_13 : decode cX8_taken 13 = .ok (.iload_n 1, 1) := by decide +kernel
theorem dX8_taken_14 : decode cX8_taken 14 = .ok (.iaload, 1) := by decide +kernel
theorem dX8_taken_15 : decode cX8_taken 15 = .ok (.ifCond .ne 6, 3) := by decide +kernel
theorem dX8_taken_18 : decode cX8_taken 18 = .ok (.bipush (-9), 2) := by decide +kernel
theorem dX8_taken_20 : decode cX8_taken 20 = .ok (.ireturn, 1) := by decide +kernel
theorem dX8_taken_21 : decode cX8_taken 21 = .ok (.aload_n 0, 1) := by decide +kernel
theorem dX8_taken_22 : decode cX8_taken 22 = .ok (.getfield 74, 3) := by decide +kernel
theorem dX8_taken_25 : decode cX8_taken 25 = .ok (.iload_n 1, 1) := by decide +kernel
theorem dX8_taken_26 : decode cX8_taken 26 = .ok (.iconst 0, 1) := by decide +kernel
theorem dX8_taken_27 : decode cX8_taken 27 = .ok (.iastore, 1) := by decide +kernel
theorem dX8_taken_28 : decode cX8_taken 28 = .ok (.aload_n 0, 1) := by decide +kernel
theorem dX8_taken_29 : decode cX8_taken 29 = .ok (.getfield 71, 3) := by decide +kernel
theorem dX8_taken_32 : decode cX8_taken 32 = .ok (.iload_n 1, 1) := by decide +kernel
theorem dX8_taken_33 : decode cX8_taken 33 = .ok (.iaload, 1) := by decide +kernel
theorem dX8_taken_34 : decode cX8_taken 34 = .ok (.ireturn, 1) := by decide +kernel
set_option maxRecDepth 20000 in
theorem ggX8_ofCatcher_X8_isOne : GoodIn wsX8_ofCatcher wsX8_isOne := goodIn_r _ [11, 12, 13, 10, 14] (by decide +kernel) (by decide +kernel)
set_option maxRecDepth 20000 in
theorem gX8_ofCatcher_X8_isOne : GoodIn wsX8_ofCatcher (va_wsS RX8 130 yX8_isOne wsX8_isOne) := goodIn_app (goodIn_of _ (by decide +kernel)) ggX8_ofCatcher_X8_isOne
theorem dX8_ofCatcher_0 : decode cX8_ofCatcher 0 = .ok (.iload_n 1, 1) := by decide +kernel
theorem dX8_ofCatcher_1 : decode cX8_ofCatcher 1 = .ok (.invokestatic 130, 3) := by decide +kernel
theorem dX8_ofCatcher_4 : decode cX8_ofCatcher 4 = .ok (.ifCond .ne 5, 3) := by decide +kernel
theorem dX8_ofCatcher_7 : decode cX8_ofCatcher 7 = .ok (.iconst (-1), 1) := by decide +kernel
theorem dX8_ofCatcher_8 : decode cX8_ofCatcher 8 = .ok (.ireturn, 1) := by decide +kernel
theorem dX8_ofCatcher_9 : decode cX8_ofCatcher 9 = .ok (.iload_n 2, 1) := by decide +kernel
theorem dX8_ofCatcher_10 : decode cX8_ofCatcher 10 = .ok (.tableswitch 91 0 6 #[42, 49, 56, 63, 70, 77, 84], 42) := by decide +kernel
theorem dX8_ofCatcher_52 : decode cX8_ofCatcher 52 = .ok (.aload_n 0, 1) := by decide +kernel
theorem dX8_ofCatcher_53 : decode cX8_ofCatcher 53 = .ok (.getfield 59, 3) := by decide +kernel
theorem dX8_ofCatcher_56 : decode cX8_ofCatcher 56 = .ok (.iload_n 1, 1) := by decide +kernel
theorem dX8_ofCatcher_57 : decode cX8_ofCatcher 57 = .ok (.iaload, 1) := by decide +kernel
theorem dX8_ofCatcher_58 : decode cX8_ofCatcher 58 = .ok (.ireturn, 1) := by decide +kernel
theorem dX8_ofCatcher_59 : decode cX8_ofCatcher 59 = .ok (.aload_n 0, 1) := by decide +kernel
theorem dX8_ofCatcher_60 : decode cX8_ofCatcher 60 = .ok (.getfield 62, 3) := by decide +kernel
theorem dX8_ofCatcher_63 : decode cX8_ofCatcher 63 = .ok (.iload_n 1, 1) := by decide +kernel
theorem dX8_ofCatcher_64 : decode cX8_ofCatcher 64 = .ok (.iaload, 1) := by decide +kernel
theorem dX8_ofCatcher_65 : decode cX8_ofCatcher 65 = .ok (.ireturn, 1) := by decide +kernel
theorem dX8_ofCatcher_66 : decode cX8_ofCatcher 66 = .ok (.aload_n 0, 1) := by decide +kernel
theorem dX8_ofCatcher_67 : decode cX8_ofCatcher 67 = .ok (.getfield 65, 3) := by decide +kernel
theorem dX8_ofCatcher_70 : decode cX8_ofCatcher 70 = .ok (.iload_n 1, 1) := by decide +kernel
theorem dX8_ofCatcher_71 : decode cX8_ofCatcher 71 = .ok (.iaload, 1) := by decide +kernel
theorem dX8_ofCatcher_72 : decode cX8_ofCatcher 72 = .ok (.ireturn, 1) := by decide +kernel
theorem dX8_ofCatcher_73 : decode cX8_ofCatcher 73 = .ok (.aload_n 0, 1) := by decide +kernel
theorem dX8_ofCatcher_74 : decode cX8_ofCatcher 74 = .ok (.getfield 68, 3) := by decide +kernel
theorem dX8_ofCatcher_77 : decode cX8_ofCatcher 77 = .ok (.iload_n 1, 1) := by decide +kernel
theorem dX8_ofCatcher_78 : decode cX8_ofCatcher 78 = .ok (.iaload, 1) := by decide +kernel
theorem dX8_ofCatcher_79 : decode cX8_ofCatcher 79 = .ok (.ireturn, 1) := by decide +kernel
theorem dX8_ofCatcher_80 : decode cX8_ofCatcher 80 = .ok (.aload_n 0, 1) := by decide +kernel
theorem dX8_ofCatcher_81 : decode cX8_ofCatcher 81 = .ok (.getfield 71, 3) := by decide +kernel
theorem dX8_ofCatcher_84 : decode cX8_ofCatcher 84 = .ok (.iload_n 1, 1) := by decide +kernel
theorem dX8_ofCatcher_85 : decode cX8_ofCatcher 85 = .ok (.iaload, 1) := by decide +kernel
theorem dX8_ofCatcher_86 : decode cX8_ofCatcher 86 = .ok (.ireturn, 1) := by decide +kernel
theorem dX8_ofCatcher_87 : decode cX8_ofCatcher 87 = .ok (.aload_n 0, 1) := by decide +kernel
theorem dX8_ofCatcher_88 : decode cX8_ofCatcher 88 = .ok (.getfield 74, 3) := by decide +kernel
theorem dX8_ofCatcher_91 : decode cX8_ofCatcher 91 = .ok (.iload_n 1, 1) := by decide +kernel
theorem dX8_ofCatcher_92 : decode cX8_ofCatcher 92 = .ok (.iaload, 1) := by decide +kernel
theorem dX8_ofCatcher_93 : decode cX8_ofCatcher 93 = .ok (.ireturn, 1) := by decide +kernel
theorem dX8_ofCatcher_94 : decode cX8_ofCatcher 94 = .ok (.aload_n 0, 1) := by decide +kernel
theorem dX8_ofCatcher_95 : decode cX8_ofCatcher 95 = .ok (.getfield 77, 3) := by decide +kernel
theorem dX8_ofCatcher_98 : decode cX8_ofCatcher 98 = .ok (.iload_n 1, 1) := by decide +kernel
theorem dX8_ofCatcher_99 : decode cX8_ofCatcher 99 = .ok (.iaload, 1) := by decide +kernel
theorem dX8_ofCatcher_100 : decode cX8_ofCatcher 100 = .ok (.ireturn, 1) := by decide +kernel
theorem dX8_ofCatcher_101 : decode cX8_ofCatcher 101 = .ok (.bipush (-2), 2) := by decide +kernel
theorem dX8_ofCatcher_103 : decode cX8_ofCatcher 103 = .ok (.ireturn, 1) := by decide +kernel
theorem dX8_catchers_0 : decode cX8_catchers 0 = .ok (.iconst 0, 1) := by decide +kernel
theorem dX8_catchers_1 : decode cX8_catchers 1 = .ok (.istore_n 1, 1) := by decide +kernel
theorem dX8_catchers_2 : decode cX8_catchers 2 = .ok (.iload_n 1, 1) := by decide +kernel
theorem dX8_catchers_3 : decode cX8_catchers 3 = .ok (.iconst 4, 1) := by decide +kernel
theorem dX8_catchers_4 : decode cX8_catchers 4 = .ok (.if_icmp .ge 117, 3) := by decide +kernel
theorem dX8_catchers_7 : decode cX8_catchers 7 = .ok (.aload_n 0, 1) := by decide +kernel
theorem dX8_catchers_8 : decode cX8_catchers 8 = .ok (.getfield 56, 3) := by decide +kernel
theorem dX8_catchers_11 : decode cX8_catchers 11 = .ok (.iload_n 1, 1) := by decide +kernel
theorem dX8_catchers_12 : decode cX8_catchers 12 = .ok (.iaload, 1) := by decide +kernel
theorem dX8_catchers_13 : decode cX8_catchers 13 = .ok (.ifCond .eq 23, 3) := by decide +kernel
theorem dX8_catchers_16 : decode cX8_catchers 16 = .ok (.aload_n 0, 1) := by decide +kernel
theorem dX8_catchers_17 : decode cX8_catchers 17 = .ok (.getfield 62, 3) := by decide +kernel
theorem dX8_catchers_20 : decode cX8_catchers 20 = .ok (.iload_n 1, 1) := by decide +kernel
theorem dX8_catchers_21 : decode cX8_catchers 21 = .ok (.iaload, 1) := by decide +kernel
theorem dX8_catchers_22 : decode cX8_catchers 22 = .ok (.aload_n 0, 1) := by decide +kernel
theorem dX8_catchers_23 : decode cX8_catchers 23 = .ok (.getfield 56, 3) := by decide +kernel
theorem dX8_catchers_26 : decode cX8_catchers 26 = .ok (.iload_n 1, 1) := by decide +kernel
theorem dX8_catchers_27 : decode cX8_catchers 27 = .ok (.iaload, 1) := by decide +kernel
theorem dX8_catchers_28 : decode cX8_catchers 28 = .ok (.iand, 1) := by decide +kernel
theorem dX8_catchers_29 : decode cX8_catchers 29 = .ok (.ifCond .eq 7, 3) := by decide +kernel
theorem dX8_catchers_32 : decode cX8_catchers 32 = .ok (.iconst 1, 1) := by decide +kernel
theorem dX8_catchers_33 : decode cX8_catchers 33 = .ok (.goto 4, 3) := by decide +kernel
theorem dX8_catchers_36 : decode cX8_catchers 36 = .ok (.iconst 0, 1) := by decide +kernel
theorem dX8_catchers_37 : decode cX8_catchers 37 = .ok (.istore_n 2, 1) := by decide +kernel
theorem dX8_catchers_38 : decode cX8_catchers 38 = .ok (.aload_n 0, 1) := by decide +kernel
theorem dX8_catchers_39 : decode cX8_catchers 39 = .ok (.getfield 68, 3) := by decide +kernel
theorem dX8_catchers_42 : decode cX8_catchers 42 = .ok (.iload_n 1, 1) := by decide +kernel
theorem dX8_catchers_43 : decode cX8_catchers 43 = .ok (.dup2, 1) := by decide +kernel
theorem dX8_catchers_44 : decode cX8_catchers 44 = .ok (.iaload, 1) := by decide +kernel
theorem dX8_catchers_45 : decode cX8_catchers 45 = .ok (.iload_n 2, 1) := by decide +kernel
theorem dX8_catchers_46 : decode cX8_catchers 46 = .ok (.ifCond .eq 7, 3) := by decide +kernel
theorem dX8_catchers_49 : decode cX8_catchers 49 = .ok (.iconst 1, 1) := by decide +kernel
theorem dX8_catchers_50 : decode cX8_catchers 50 = .ok (.goto 4, 3) := by decide +kernel
theorem dX8_catchers_53 : decode cX8_catchers 53 = .ok (.iconst 0, 1) := by decide +kernel
theorem dX8_catchers_54 : decode cX8_catchers 54 = .ok (.iadd, 1) := by decide +kernel
theorem dX8_catchers_55 : decode cX8_catchers 55 = .ok (.iastore, 1) := by decide +kernel
theorem dX8_catchers_56 : decode cX8_catchers 56 = .ok (.iload_n 2, 1) := by decide +kernel
theorem dX8_catchers_57 : decode cX8_catchers 57 = .ok (.ifCond .eq 58, 3) := by decide +kernel
theorem dX8_catchers_60 : decode cX8_catchers 60 = .ok (.aload_n 0, 1) := by decide +kernel
theorem dX8_catchers_61 : decode cX8_catchers 61 = .ok (.getfield 68, 3) := by decide +kernel
theorem dX8_catchers_64 : decode cX8_catchers 64 = .ok (.iload_n 1, 1) := by decide +kernel
theorem dX8_catchers_65 : decode cX8_catchers 65 = .ok (.iaload, 1) := by decide +kernel
theorem dX8_catchers_66 : decode cX8_catchers 66 = .ok (.aload_n 0, 1) := by decide +kernel
theorem dX8_catchers_67 : decode cX8_catchers 67 = .ok (.getfield 65, 3) := by decide +kernel
theorem dX8_catchers_70 : decode cX8_catchers 70 = .ok (.iload_n 1, 1) := by decide +kernel
theorem dX8_catchers_71 : decode cX8_catchers 71 = .ok (.iaload, 1) := by decide +kernel
theorem dX8_catchers_72 : decode cX8_catchers 72 = .ok (.irem, 1) := by decide +kernel
theorem dX8_catchers_73 : decode cX8_catchers 73 = .ok (.ifCond .ne 42, 3) := by decide +kernel
theorem dX8_catchers_76 : decode cX8_catchers 76 = .ok (.aload_n 0, 1) := by decide +kernel
theorem dX8_catchers_77 : decode cX8_catchers 77 = .ok (.getfield 77, 3) := by decide +kernel
theorem dX8_catchers_80 : decode cX8_catchers 80 = .ok (.iload_n 1, 1) := by decide +kernel
theorem dX8_catchers_81 : decode cX8_catchers 81 = .ok (.dup2, 1) := by decide +kernel
theorem dX8_catchers_82 : decode cX8_catchers 82 = .ok (.iaload, 1) := by decide +kernel
theorem dX8_catchers_83 : decode cX8_catchers 83 = .ok (.aload_n 0, 1) := by decide +kernel
theorem dX8_catchers_84 : decode cX8_catchers 84 = .ok (.getfield 74, 3) := by decide +kernel
theorem dX8_catchers_87 : decode cX8_catchers 87 = .ok (.iload_n 1, 1) := by decide +kernel
theorem dX8_catchers_88 : decode cX8_catchers 88 = .ok (.iaload, 1) := by decide +kernel
theorem dX8_catchers_89 : decode cX8_catchers 89 = .ok (.iadd, 1) := by decide +kernel
theorem dX8_catchers_90 : decode cX8_catchers 90 = .ok (.iastore, 1) := by decide +kernel
theorem dX8_catchers_91 : decode cX8_catchers 91 = .ok (.aload_n 0, 1) := by decide +kernel
theorem dX8_catchers_92 : decode cX8_catchers 92 = .ok (.getfield 71, 3) := by decide +kernel
theorem dX8_catchers_95 : decode cX8_catchers 95 = .ok (.iload_n 1, 1) := by decide +kernel
theorem dX8_catchers_96 : decode cX8_catchers 96 = .ok (.aload_n 0, 1) := by decide +kernel
theorem dX8_catchers_97 : decode cX8_catchers 97 = .ok (.getfield 22, 3) := by decide +kernel
theorem dX8_catchers_100 : decode cX8_catchers 100 = .ok (.aload_n 0, 1) := by decide +kernel
theorem dX8_catchers_101 : decode cX8_catchers 101 = .ok (.getfield 59, 3) := by decide +kernel
theorem dX8_catchers_104 : decode cX8_catchers 104 = .ok (.iload_n 1, 1) := by decide +kernel
theorem dX8_catchers_105 : decode cX8_catchers 105 = .ok (.iaload, 1) := by decide +kernel
theorem dX8_catchers_106 : decode cX8_catchers 106 = .ok (.iaload, 1) := by decide +kernel
theorem dX8_catchers_107 : decode cX8_catchers 107 = .ok (.iastore, 1) := by decide +kernel
theorem dX8_catchers_108 : decode cX8_catchers 108 = .ok (.aload_n 0, 1) := by decide +kernel
theorem dX8_catchers_109 : decode cX8_catchers 109 = .ok (.getfield 74, 3) := by decide +kernel
theorem dX8_catchers_112 : decode cX8_catchers 112 = .ok (.iload_n 1, 1) := by decide +kernel
theorem dX8_catchers_113 : decode cX8_catchers 113 = .ok (.iconst 1, 1) := by decide +kernel
theorem dX8_catchers_114 : decode cX8_catchers 114 = .ok (.iastore, 1) := by decide +kernel
theorem dX8_catchers_115 : decode cX8_catchers 115 = .ok (.iinc 1 1, 3) := by decide +kernel
theorem dX8_catchers_118 : decode cX8_catchers 118 = .ok (.goto (-116), 3) := by decide +kernel
theorem dX8_catchers_121 : decode cX8_catchers 121 = .ok (.return_, 1) := by decide +kernel
set_option maxRecDepth 20000 in
theorem ggX8_oneTick_X8_inputs : GoodIn wsX8_oneTick wsX8_inputs := goodIn_r _ [11, 12, 13, 14, 15, 16, 119, 120, 121, 122, 123, 124, 125, 126, 127, 128, 129, 130, 131, 132, 133, 134, 135, 136, 137, 138, 139, 140, 141, 142, 143, 144, 145, 146, 147, 148, 149, 150, 151, 152, 153, 154, 155, 156, 157, 158, 159, 160, 161, 162, 163] (by decide +kernel) (by decide +kernel)
set_option maxRecDepth 20000 in
theorem gX8_oneTick_X8_inputs : GoodIn wsX8_oneTick (wsV RX8 162 RX8 yX8_inputs wsX8_inputs) := goodIn_app (goodIn_of _ (by decide +kernel)) ggX8_oneTick_X8_inputs
set_option maxRecDepth 20000 in
theorem ggX8_oneTick_X8_counters : GoodIn wsX8_oneTick wsX8_counters := goodIn_r _ [20, 21, 22, 23, 24, 25, 26, 27, 10, 28, 29, 12, 30, 31, 32, 33, 34, 35, 36, 37, 38, 1, 39, 40, 41, 42, 43, 44, 45, 46, 47, 48, 49, 50, 51, 52, 53, 54, 55, 56, 57, 58, 119, 120, 121, 122, 123, 124, 125, 126, 127, 128, 129, 130, 131, 132, 133, 134, 135, 136, 137, 138, 139, 140, 141, 142, 143, 144, 145, 146, 147, 148, 149, 150, 151, 152, 153, 154, 155, 156, 157, 158, 159, 160, 161, 162, 163] (by decide +kernel) (by decide +kernel)
set_option maxRecDepth 20000 in
theorem gX8_oneTick_X8_counters : GoodIn wsX8_oneTick (wsV RX8 165 RX8 yX8_counters wsX8_counters) := goodIn_app (goodIn_of _ (by decide +kernel)) ggX8_oneTick_X8_counters
set_option maxRecDepth 20000 in
theorem ggX8_oneTick_X8_catchers : GoodIn wsX8_oneTick wsX8_catchers := goodIn_r _ [62, 12, 63, 64, 65, 66, 67, 68, 1, 69, 119, 120, 121, 122, 123, 124, 125, 126, 127, 128, 129, 130, 131, 132, 133, 134, 135, 136, 137, 138, 139, 140, 141, 142, 143, 144, 145, 146, 147, 148, 149, 150, 151, 152, 153, 154, 155, 156, 157, 158, 159, 160, 161, 162, 163] (by decide +kernel) (by decide +kernel)
set_option maxRecDepth 20000 in
theorem gX8_oneTick_X8_catchers : GoodIn wsX8_oneTick (wsV RX8 168 RX8 yX8_catchers wsX8_catchers) := goodIn_app (goodIn_of _ (by decide +kernel)) ggX8_oneTick_X8_catchers
set_option maxRecDepth 20000 in
theorem ggX8_oneTick_X8_channels : GoodIn wsX8_oneTick wsX8_channels := goodIn_r _ [73, 74, 75, 76, 77, 78, 10, 79, 80, 21, 1, 81, 82, 119, 120, 121, 122, 123, 124, 125, 126, 127, 128, 129, 130, 131, 132, 133, 134, 135, 136, 137, 138, 139, 140, 141, 142, 143, 144, 145, 146, 147, 148, 149, 150, 151, 152, 153, 154, 155, 156, 157, 158, 159, 160, 161, 162, 163] (by decide +kernel) (by decide +kernel)
set_option maxRecDepth 20000 in
theorem gX8_oneTick_X8_channels : GoodIn wsX8_oneTick (wsV RX8 171 RX8 yX8_channels wsX8_channels) := goodIn_app (goodIn_of _ (by decide +kernel)) ggX8_oneTick_X8_channels
set_option maxRecDepth 20000 in
theorem ggX8_oneTick_X8_sampleOf : GoodIn wsX8_oneTick wsX8_sampleOf := goodIn_r _ [86, 87, 88, 89, 10, 90, 91, 92, 93, 119, 120, 121, 122, 123, 124, 125, 126, 127, 128, 129, 130, 131, 132, 133, 134, 135, 136, 137, 138, 139, 140, 141, 142, 143, 144, 145, 146, 147, 148, 149, 150, 151, 152, 153, 154, 155, 156, 157, 158, 159, 160, 161, 162, 163] (by decide +kernel) (by decide +kernel)
set_option maxRecDepth 20000 in
theorem gX8_oneTick_X8_sampleOf : GoodIn wsX8_oneTick (wsV RX8 180 RX8 yX8_sampleOf wsX8_sampleOf) := goodIn_app (goodIn_of _ (by decide +kernel)) ggX8_oneTick_X8_sampleOf
set_option maxRecDepth 20000 in
theorem ggX8_oneTick_X8_pins : GoodIn wsX8_oneTick wsX8_pins := goodIn_r _ [97, 98, 99, 100, 101, 10, 102, 103, 104, 105, 106, 107, 108, 109, 82, 75, 74, 110, 111, 112, 113, 114, 115, 116, 117, 118, 3, 119, 120, 121, 122, 123, 124, 125, 126, 127, 128, 129, 130, 131, 132, 133, 134, 135, 136, 137, 138, 139, 140, 141, 142, 143, 144, 145, 146, 147, 148, 149, 150, 151, 152, 153, 154, 155, 156, 157, 158, 159, 160, 161, 162, 163] (by decide +kernel) (by decide +kernel)
set_option maxRecDepth 20000 in
theorem gX8_oneTick_X8_pins : GoodIn wsX8_oneTick (wsV RX8 184 RX8 yX8_pins wsX8_pins) := goodIn_app (goodIn_of _ (by decide +kernel)) ggX8_oneTick_X8_pins
theorem dX8_oneTick_0 : decode cX8_oneTick 0 = .ok (.aload_n 0, 1) := by decide +kernel
theorem dX8_oneTick_1 : decode cX8_oneTick 1 = .ok (.getfield 22, 3) := by decide +kernel
theorem dX8_oneTick_4 : decode cX8_oneTick 4 = .ok (.aload_n 0, 1) := by decide +kernel
theorem dX8_oneTick_5 : decode cX8_oneTick 5 = .ok (.getfield 156, 3) := by decide +kernel
theorem dX8_oneTick_8 : decode cX8_oneTick 8 = .ok (.iaload, 1) := by decide +kernel
theorem dX8_oneTick_9 : decode cX8_oneTick 9 = .ok (.istore_n 1, 1) := by decide +kernel
theorem dX8_oneTick_10 : decode cX8_oneTick 10 = .ok (.aload_n 0, 1) := by decide +kernel
theorem dX8_oneTick_11 : decode cX8_oneTick 11 = .ok (.dup, 1) := by decide +kernel
theorem dX8_oneTick_12 : decode cX8_oneTick 12 = .ok (.getfield 159, 3) := by decide +kernel
theorem dX8_oneTick_15 : decode cX8_oneTick 15 = .ok (.iconst 1, 1) := by decide +kernel
theorem dX8_oneTick_16 : decode cX8_oneTick 16 = .ok (.iadd, 1) := by decide +kernel
theorem dX8_oneTick_17 : decode cX8_oneTick 17 = .ok (.putfield 159, 3) := by decide +kernel
theorem dX8_oneTick_20 : decode cX8_oneTick 20 = .ok (.aload_n 0, 1) := by decide +kernel
theorem dX8_oneTick_21 : decode cX8_oneTick 21 = .ok (.invokevirtual 162, 3) := by decide +kernel
theorem dX8_oneTick_24 : decode cX8_oneTick 24 = .ok (.aload_n 0, 1) := by decide +kernel
theorem dX8_oneTick_25 : decode cX8_oneTick 25 = .ok (.invokevirtual 165, 3) := by decide +kernel
theorem dX8_oneTick_28 : decode cX8_oneTick 28 = .ok (.aload_n 0, 1) := by decide +kernel
theorem dX8_oneTick_29 : decode cX8_oneTick 29 = .ok (.invokevirtual 168, 3) := by decide +kernel
theorem dX8_oneTick_32 : decode cX8_oneTick 32 = .ok (.aload_n 0, 1) := by decide +kernel
theorem dX8_oneTick_33 : decode cX8_oneTick 33 = .ok (.invokevirtual 171, 3) := by decide +kernel
theorem dX8_oneTick_36 : decode cX8_oneTick 36 = .ok (.aload_n 0, 1) := by decide +kernel
theorem dX8_oneTick_37 : decode cX8_oneTick 37 = .ok (.getfield 159, 3) := by decide +kernel
theorem dX8_oneTick_40 : decode cX8_oneTick 40 = .ok (.aload_n 0, 1) := by decide +kernel
theorem dX8_oneTick_41 : decode cX8_oneTick 41 = .ok (.getfield 122, 3) := by decide +kernel
theorem dX8_oneTick_44 : decode cX8_oneTick 44 = .ok (.irem, 1) := by decide +kernel
theorem dX8_oneTick_45 : decode cX8_oneTick 45 = .ok (.ifCond .ne 29, 3) := by decide +kernel
theorem dX8_oneTick_48 : decode cX8_oneTick 48 = .ok (.aload_n 0, 1) := by decide +kernel
theorem dX8_oneTick_49 : decode cX8_oneTick 49 = .ok (.aload_n 0, 1) := by decide +kernel
theorem dX8_oneTick_50 : decode cX8_oneTick 50 = .ok (.getfield 174, 3) := by decide +kernel
theorem dX8_oneTick_53 : decode cX8_oneTick 53 = .ok (.putfield 177, 3) := by decide +kernel
theorem dX8_oneTick_56 : decode cX8_oneTick 56 = .ok (.aload_n 0, 1) := by decide +kernel
theorem dX8_oneTick_57 : decode cX8_oneTick 57 = .ok (.aload_n 0, 1) := by decide +kernel
theorem dX8_oneTick_58 : decode cX8_oneTick 58 = .ok (.iload_n 1, 1) := by decide +kernel
theorem dX8_oneTick_59 : decode cX8_oneTick 59 = .ok (.aload_n 0, 1) := by decide +kernel
theorem dX8_oneTick_60 : decode cX8_oneTick 60 = .ok (.getfield 22, 3) := by decide +kernel
theorem dX8_oneTick_63 : decode cX8_oneTick 63 = .ok (.aload_n 0, 1) := by decide +kernel
theorem dX8_oneTick_64 : decode cX8_oneTick 64 = .ok (.getfield 156, 3) := by decide +kernel
theorem dX8_oneTick_67 : decode cX8_oneTick 67 = .ok (.iaload, 1) := by decide +kernel
theorem dX8_oneTick_68 : decode cX8_oneTick 68 = .ok (.invokevirtual 180, 3) := by decide +kernel
theorem dX8_oneTick_71 : decode cX8_oneTick 71 = .ok (.putfield 174, 3) := by decide +kernel
theorem dX8_oneTick_74 : decode cX8_oneTick 74 = .ok (.aload_n 0, 1) := by decide +kernel
theorem dX8_oneTick_75 : decode cX8_oneTick 75 = .ok (.invokevirtual 184, 3) := by decide +kernel
theorem dX8_oneTick_78 : decode cX8_oneTick 78 = .ok (.return_, 1) := by decide +kernel
set_option maxRecDepth 20000 in
theorem ggX8_ticks_X8_within : GoodIn wsX8_ticks wsX8_within := goodIn_r _ [5] (by decide +kernel) (by decide +kernel)
set_option maxRecDepth 20000 in
theorem gX8_ticks_X8_within : GoodIn wsX8_ticks (va_wsS RX8 126 yX8_within wsX8_within) := goodIn_app (goodIn_of _ (by decide +kernel)) ggX8_ticks_X8_within
set_option maxRecDepth 20000 in
theorem ggX8_ticks_X8_oneTick : GoodIn wsX8_ticks wsX8_oneTick := goodIn_r _ [9, 10, 11, 1, 12, 13, 14, 15, 16, 17, 4, 18, 19, 20, 21, 22, 23, 24, 25, 26, 27, 28, 29, 30, 31, 32, 33, 34, 35, 36, 37, 38, 39, 40, 41, 42, 43, 44, 45, 46, 47, 48, 49, 50, 51, 52, 53, 54, 55, 56, 57, 58, 59, 60, 61, 62, 63, 64, 65, 66, 67, 68, 69, 70, 71, 72, 73, 74, 75, 76, 77, 78, 79, 80, 81, 82, 83, 84, 85, 86, 87, 88, 89, 90, 91, 92, 93, 94, 95, 96, 97, 98, 99, 100, 101, 102, 103, 104, 105, 106, 107, 108, 109, 110, 111, 112, 113, 114, 115, 116, 117, 118, 119, 120, 121, 122, 123, 124, 125, 126, 127, 128, 129, 130, 131, 132, 133, 134, 135, 136, 137, 138, 139, 140, 141, 142, 143, 144, 145, 146, 147, 148, 149, 150, 151, 152, 153, 154, 155, 156, 157, 158, 159, 160, 161, 162, 163, 164, 165, 166, 167, 168, 169, 170] (by decide +kernel) (by decide +kernel)
set_option maxRecDepth 20000 in
theorem gX8_ticks_X8_oneTick : GoodIn wsX8_ticks (wsV RX8 187 RX8 yX8_oneTick wsX8_oneTick) := goodIn_app (goodIn_of _ (by decide +kernel)) ggX8_ticks_X8_oneTick
theorem dX8_ticks_0 : decode cX8_ticks 0 = .ok (.iload_n 1, 1) := by decide +kernel
theorem dX8_ticks_1 : decode cX8_ticks 1 = .ok (.iconst 0, 1) := by decide +kernel
theorem dX8_ticks_2 : decode cX8_ticks 2 = .ok (.sipush 400, 3) := by decide +kernel
theorem dX8_ticks_5 : decode cX8_ticks 5 = .ok (.invokestatic 126, 3) := by decide +kernel
theorem dX8_ticks_8 : decode cX8_ticks 8 = .ok (.ifCond .ne 6, 3) := by decide +kernel
theorem dX8_ticks_11 : decode cX8_ticks 11 = .ok (.bipush (-2), 2) := by decide +kernel
theorem dX8_ticks_13 : decode cX8_ticks 13 = .ok (.ireturn, 1) := by decide +kernel
theorem dX8_ticks_14 : decode cX8_ticks 14 = .ok (.iconst 0, 1) := by decide +kernel
theorem dX8_ticks_15 : decode cX8_ticks 15 = .ok (.istore_n 2, 1) := by decide +kernel
theorem dX8_ticks_16 : decode cX8_ticks 16 = .ok (.iload_n 2, 1) := by decide +kernel
theorem dX8_ticks_17 : decode cX8_ticks 17 = .ok (.iload_n 1, 1) := by decide +kernel
theorem dX8_ticks_18 : decode cX8_ticks 18 = .ok (.if_icmp .ge 13, 3) := by decide +kernel
theorem dX8_ticks_21 : decode cX8_ticks 21 = .ok (.aload_n 0, 1) := by decide +kernel
theorem dX8_ticks_22 : decode cX8_ticks 22 = .ok (.invokevirtual 187, 3) := by decide +kernel
theorem dX8_ticks_25 : decode cX8_ticks 25 = .ok (.iinc 2 1, 3) := by decide +kernel
theorem dX8_ticks_28 : decode cX8_ticks 28 = .ok (.goto (-12), 3) := by decide +kernel
theorem dX8_ticks_31 : decode cX8_ticks 31 = .ok (.aload_n 0, 1) := by decide +kernel
theorem dX8_ticks_32 : decode cX8_ticks 32 = .ok (.getfield 159, 3) := by decide +kernel
theorem dX8_ticks_35 : decode cX8_ticks 35 = .ok (.ireturn, 1) := by decide +kernel
set_option maxRecDepth 20000 in
theorem ggX8_channel_X8_isOne : GoodIn wsX8_channel wsX8_isOne := goodIn_r _ [9, 10, 11, 8, 12] (by decide +kernel) (by decide +kernel)
set_option maxRecDepth 20000 in
theorem gX8_channel_X8_isOne : GoodIn wsX8_channel (va_wsS RX8 130 yX8_isOne wsX8_isOne) := goodIn_app (goodIn_of _ (by decide +kernel)) ggX8_channel_X8_isOne
set_option maxRecDepth 20000 in
theorem ggX8_channel_X8_within : GoodIn wsX8_channel wsX8_within := goodIn_r _ [12] (by decide +kernel) (by decide +kernel)
set_option maxRecDepth 20000 in
theorem gX8_channel_X8_within : GoodIn wsX8_channel (va_wsS RX8 126 yX8_within wsX8_within) := goodIn_app (goodIn_of _ (by decide +kernel)) ggX8_channel_X8_within
set_option maxRecDepth 20000 in
theorem ggX8_channel_X8_pins : GoodIn wsX8_channel wsX8_pins := goodIn_r _ [16, 17, 18, 19, 20, 8, 21, 22, 23, 24, 25, 26, 27, 28, 2, 4, 5, 29, 30, 31, 32, 33, 34, 35, 36, 37, 38, 39, 40, 41, 42, 43, 44, 45, 46, 47, 48, 49, 50, 51, 52, 53, 54, 55, 56, 57, 58, 59, 60, 61, 62, 63, 64, 65, 66, 67, 68, 69, 70, 71, 72, 73, 74, 75, 76, 77, 78, 79, 80, 81, 82, 83] (by decide +kernel) (by decide +kernel)
set_option maxRecDepth 20000 in
theorem gX8_channel_X8_pins : GoodIn wsX8_channel (wsV RX8 184 RX8 yX8_pins wsX8_pins) := goodIn_app (goodIn_of _ (by decide +kernel)) ggX8_channel_X8_pins
theorem dX8_channel_0 : decode cX8_channel 0 = .ok (.iload_n 1, 1) := by decide +kernel
theorem dX8_channel_1 : decode cX8_channel 1 = .ok (.invokestatic 130, 3) := by decide +kernel
theorem dX8_channel_4 : decode cX8_channel 4 = .ok (.ifCond .eq 10, 3) := by decide +kernel
theorem dX8_channel_7 : decode cX8_channel 7 = .ok (.iload_n 2, 1) := by decide +kernel
theorem dX8_channel_8 : decode cX8_channel 8 = .ok (.invokestatic 130, 3) := by decide +kernel
theorem dX8_channel_11 : decode cX8_channel 11 = .ok (.ifCond .ne 5, 3) := by decide +kernel
theorem dX8_channel_14 : decode cX8_channel 14 = .ok (.iconst (-1), 1) := by decide +kernel
theorem dX8_channel_15 : decode cX8_channel 15 = .ok (.ireturn, 1) := by decide +kernel
theorem dX8_channel_16 : decode cX8_channel 16 = .ok (.iload_n 3, 1) := by decide +kernel
theorem dX8_channel_17 : decode cX8_channel 17 = .ok (.iconst 0, 1) := by decide +kernel
theorem dX8_channel_18 : decode cX8_channel 18 = .ok (.iconst 4, 1) := by decide +kernel
theorem dX8_channel_19 : decode cX8_channel 19 = .ok (.invokestatic 126, 3) := by decide +kernel
theorem dX8_channel_22 : decode cX8_channel 22 = .ok (.ifCond .eq 15, 3) := by decide +kernel
theorem dX8_channel_25 : decode cX8_channel 25 = .ok (.iload 4, 2) := by decide +kernel
theorem dX8_channel_27 : decode cX8_channel 27 = .ok (.iconst 0, 1) := by decide +kernel
theorem dX8_channel_28 : decode cX8_channel 28 = .ok (.sipush 9999, 3) := by decide +kernel
theorem dX8_channel_31 : decode cX8_channel 31 = .ok (.invokestatic 126, 3) := by decide +kernel
theorem dX8_channel_34 : decode cX8_channel 34 = .ok (.ifCond .ne 6, 3) := by decide +kernel
theorem dX8_channel_37 : decode cX8_channel 37 = .ok (.bipush (-2), 2) := by decide +kernel
theorem dX8_channel_39 : decode cX8_channel 39 = .ok (.ireturn, 1) := by decide +kernel
theorem dX8_channel_40 : decode cX8_channel 40 = .ok (.aload_n 0, 1) := by decide +kernel
theorem dX8_channel_41 : decode cX8_channel 41 = .ok (.getfield 80, 3) := by decide +kernel
theorem dX8_channel_44 : decode cX8_channel 44 = .ok (.iload_n 1, 1) := by decide +kernel
theorem dX8_channel_45 : decode cX8_channel 45 = .ok (.iload_n 2, 1) := by decide +kernel
theorem dX8_channel_46 : decode cX8_channel 46 = .ok (.iastore, 1) := by decide +kernel
theorem dX8_channel_47 : decode cX8_channel 47 = .ok (.aload_n 0, 1) := by decide +kernel
theorem dX8_channel_48 : decode cX8_channel 48 = .ok (.getfield 83, 3) := by decide +kernel
theorem dX8_channel_51 : decode cX8_channel 51 = .ok (.iload_n 1, 1) := by decide +kernel
theorem dX8_channel_52 : decode cX8_channel 52 = .ok (.iload_n 3, 1) := by decide +kernel
theorem dX8_channel_53 : decode cX8_channel 53 = .ok (.iastore, 1) := by decide +kernel
theorem dX8_channel_54 : decode cX8_channel 54 = .ok (.aload_n 0, 1) := by decide +kernel
theorem dX8_channel_55 : decode cX8_channel 55 = .ok (.getfield 86, 3) := by decide +kernel
theorem dX8_channel_58 : decode cX8_channel 58 = .ok (.iload_n 1, 1) := by decide +kernel
theorem dX8_channel_59 : decode cX8_channel 59 = .ok (.iload 4, 2) := by decide +kernel
theorem dX8_channel_61 : decode cX8_channel 61 = .ok (.iastore, 1) := by decide +kernel
theorem dX8_channel_62 : decode cX8_channel 62 = .ok (.aload_n 0, 1) := by decide +kernel
theorem dX8_channel_63 : decode cX8_channel 63 = .ok (.getfield 89, 3) := by decide +kernel
theorem dX8_channel_66 : decode cX8_channel 66 = .ok (.iload_n 1, 1) := by decide +kernel
theorem dX8_channel_67 : decode cX8_channel 67 = .ok (.iconst 0, 1) := by decide +kernel
theorem dX8_channel_68 : decode cX8_channel 68 = .ok (.iastore, 1) := by decide +kernel
theorem dX8_channel_69 : decode cX8_channel 69 = .ok (.aload_n 0, 1) := by decide +kernel
theorem dX8_channel_70 : decode cX8_channel 70 = .ok (.getfield 92, 3) := by decide +kernel
theorem dX8_channel_73 : decode cX8_channel 73 = .ok (.iload_n 1, 1) := by decide +kernel
theorem dX8_channel_74 : decode cX8_channel 74 = .ok (.iconst 0, 1) := by decide +kernel
theorem dX8_channel_75 : decode cX8_channel 75 = .ok (.iastore, 1) := by decide +kernel
theorem dX8_channel_76 : decode cX8_channel 76 = .ok (.aload_n 0, 1) := by decide +kernel
theorem dX8_channel_77 : decode cX8_channel 77 = .ok (.invokevirtual 184, 3) := by decide +kernel
theorem dX8_channel_80 : decode cX8_channel 80 = .ok (.iconst 1, 1) := by decide +kernel
theorem dX8_channel_81 : decode cX8_channel 81 = .ok (.ireturn, 1) := by decide +kernel
set_option maxRecDepth 20000 in
theorem ggX8_outputs_X8_isOne : GoodIn wsX8_outputs wsX8_isOne := goodIn_r _ [7, 8, 9, 6, 10] (by decide +kernel) (by decide +kernel)
set_option maxRecDepth 20000 in
theorem gX8_outputs_X8_isOne : GoodIn wsX8_outputs (va_wsS RX8 130 yX8_isOne wsX8_isOne) := goodIn_app (goodIn_of _ (by decide +kernel)) ggX8_outputs_X8_isOne
set_option maxRecDepth 20000 in
theorem ggX8_outputs_X8_within : GoodIn wsX8_outputs wsX8_within := goodIn_r _ [10] (by decide +kernel) (by decide +kernel)
set_option maxRecDepth 20000 in
theorem gX8_outputs_X8_within : GoodIn wsX8_outputs (va_wsS RX8 126 yX8_within wsX8_within) := goodIn_app (goodIn_of _ (by decide +kernel)) ggX8_outputs_X8_within
set_option maxRecDepth 20000 in
theorem ggX8_outputs_X8_pins : GoodIn wsX8_outputs wsX8_pins := goodIn_r _ [14, 15, 16, 17, 18, 6, 19, 20, 3, 2, 21, 22, 23, 24, 25, 26, 27, 1, 28, 29, 30, 31, 32, 33, 34, 35, 36, 37, 38, 39, 40, 41, 42, 43, 44, 45, 46, 47, 48, 49, 50, 51, 52, 53, 54, 55, 56, 57, 58, 59, 60, 61, 62, 63, 64, 65, 66, 67, 68, 69, 70, 71, 72, 73, 74, 75, 76, 77, 78, 79, 80, 81] (by decide +kernel) (by decide +kernel)
set_option maxRecDepth 20000 in
theorem gX8_outputs_X8_pins : GoodIn wsX8_outputs (wsV RX8 184 RX8 yX8_pins wsX8_pins) := goodIn_app (goodIn_of _ (by decide +kernel)) ggX8_outputs_X8_pins
theorem dX8_outputs_0 : decode cX8_outputs 0 = .ok (.iload_n 1, 1) := by decide +kernel
theorem dX8_outputs_1 : decode cX8_outputs 1 = .ok (.invokestatic 130, 3) := by decide +kernel
theorem dX8_outputs_4 : decode cX8_outputs 4 = .ok (.ifCond .ne 5, 3) := by decide +kernel
theorem dX8_outputs_7 : decode cX8_outputs 7 = .ok (.iconst (-1), 1) := by decide +kernel
theorem dX8_outputs_8 : decode cX8_outputs 8 = .ok (.ireturn, 1) := by decide +kernel
theorem dX8_outputs_9 : decode cX8_outputs 9 = .ok (.iload_n 2, 1) := by decide +kernel
theorem dX8_outputs_10 : decode cX8_outputs 10 = .ok (.iconst 0, 1) := by decide +kernel
theorem dX8_outputs_11 : decode cX8_outputs 11 = .ok (.bipush 20, 2) := by decide +kernel
theorem dX8_outputs_13 : decode cX8_outputs 13 = .ok (.invokestatic 126, 3) := by decide +kernel
theorem dX8_outputs_16 : decode cX8_outputs 16 = .ok (.ifCond .eq 22, 3) := by decide +kernel
theorem dX8_outputs_19 : decode cX8_outputs 19 = .ok (.iload_n 3, 1) := by decide +kernel
theorem dX8_outputs_20 : decode cX8_outputs 20 = .ok (.iconst 0, 1) := by decide +kernel
theorem dX8_outputs_21 : decode cX8_outputs 21 = .ok (.iconst 3, 1) := by decide +kernel
theorem dX8_outputs_22 : decode cX8_outputs 22 = .ok (.invokestatic 126, 3) := by decide +kernel
theorem dX8_outputs_25 : decode cX8_outputs 25 = .ok (.ifCond .eq 13, 3) := by decide +kernel
theorem dX8_outputs_28 : decode cX8_outputs 28 = .ok (.iload 4, 2) := by decide +kernel
theorem dX8_outputs_30 : decode cX8_outputs 30 = .ok (.iconst 0, 1) := by decide +kernel
theorem dX8_outputs_31 : decode cX8_outputs 31 = .ok (.iconst 3, 1) := by decide +kernel
theorem dX8_outputs_32 : decode cX8_outputs 32 = .ok (.invokestatic 126, 3) := by decide +kernel
theorem dX8_outputs_35 : decode cX8_outputs 35 = .ok (.ifCond .ne 6, 3) := by decide +kernel
theorem dX8_outputs_38 : decode cX8_outputs 38 = .ok (.bipush (-2), 2) := by decide +kernel
theorem dX8_outputs_40 : decode cX8_outputs 40 = .ok (.ireturn, 1) := by decide +kernel
theorem dX8_outputs_41 : decode cX8_outputs 41 = .ok (.aload_n 0, 1) := by decide +kernel
theorem dX8_outputs_42 : decode cX8_outputs 42 = .ok (.getfield 95, 3) := by decide +kernel
theorem dX8_outputs_45 : decode cX8_outputs 45 = .ok (.iload_n 1, 1) := by decide +kernel
theorem dX8_outputs_46 : decode cX8_outputs 46 = .ok (.iload_n 2, 1) := by decide +kernel
theorem dX8_outputs_47 : decode cX8_outputs 47 = .ok (.iastore, 1) := by decide +kernel
theorem dX8_outputs_48 : decode cX8_outputs 48 = .ok (.aload_n 0, 1) := by decide +kernel
theorem dX8_outputs_49 : decode cX8_outputs 49 = .ok (.getfield 98, 3) := by decide +kernel
theorem dX8_outputs_52 : decode cX8_outputs 52 = .ok (.iload_n 1, 1) := by decide +kernel
theorem dX8_outputs_53 : decode cX8_outputs 53 = .ok (.iload_n 3, 1) := by decide +kernel
theorem dX8_outputs_54 : decode cX8_outputs 54 = .ok (.iastore, 1) := by decide +kernel
theorem dX8_outputs_55 : decode cX8_outputs 55 = .ok (.aload_n 0, 1) := by decide +kernel
theorem dX8_outputs_56 : decode cX8_outputs 56 = .ok (.getfield 101, 3) := by decide +kernel
theorem dX8_outputs_59 : decode cX8_outputs 59 = .ok (.iload_n 1, 1) := by decide +kernel
theorem dX8_outputs_60 : decode cX8_outputs 60 = .ok (.iload 4, 2) := by decide +kernel
theorem dX8_outputs_62 : decode cX8_outputs 62 = .ok (.iastore, 1) := by decide +kernel
theorem dX8_outputs_63 : decode cX8_outputs 63 = .ok (.aload_n 0, 1) := by decide +kernel
theorem dX8_outputs_64 : decode cX8_outputs 64 = .ok (.invokevirtual 184, 3) := by decide +kernel
theorem dX8_outputs_67 : decode cX8_outputs 67 = .ok (.iconst 1, 1) := by decide +kernel
theorem dX8_outputs_68 : decode cX8_outputs 68 = .ok (.ireturn, 1) := by decide +kernel
theorem dX8_levelThen_0 : decode cX8_levelThen 0 = .ok (.aload_n 0, 1) := by decide +kernel
theorem dX8_levelThen_1 : decode cX8_levelThen 1 = .ok (.getfield 80, 3) := by decide +kernel
theorem dX8_levelThen_4 : decode cX8_levelThen 4 = .ok (.iload_n 1, 1) := by decide +kernel
theorem dX8_levelThen_5 : decode cX8_levelThen 5 = .ok (.iaload, 1) := by decide +kernel
theorem dX8_levelThen_6 : decode cX8_levelThen 6 = .ok (.istore_n 2, 1) := by decide +kernel
theorem dX8_levelThen_7 : decode cX8_levelThen 7 = .ok (.aload_n 0, 1) := by decide +kernel
theorem dX8_levelThen_8 : decode cX8_levelThen 8 = .ok (.getfield 37, 3) := by decide +kernel
theorem dX8_levelThen_11 : decode cX8_levelThen 11 = .ok (.iload_n 2, 1) := by decide +kernel
theorem dX8_levelThen_12 : decode cX8_levelThen 12 = .ok (.baload, 1) := by decide +kernel
theorem dX8_levelThen_13 : decode cX8_levelThen 13 = .ok (.ifCond .eq 22, 3) := by decide +kernel
theorem dX8_levelThen_16 : decode cX8_levelThen 16 = .ok (.aload_n 0, 1) := by decide +kernel
theorem dX8_levelThen_17 : decode cX8_levelThen 17 = .ok (.getfield 22, 3) := by decide +kernel
theorem dX8_levelThen_20 : decode cX8_levelThen 20 = .ok (.iload_n 2, 1) := by decide +kernel
theorem dX8_levelThen_21 : decode cX8_levelThen 21 = .ok (.iaload, 1) := by decide +kernel
theorem dX8_levelThen_22 : decode cX8_levelThen 22 = .ok (.aload_n 0, 1) := by decide +kernel
theorem dX8_levelThen_23 : decode cX8_levelThen 23 = .ok (.getfield 86, 3) := by decide +kernel
theorem dX8_levelThen_26 : decode cX8_levelThen 26 = .ok (.iload_n 1, 1) := by decide +kernel
theorem dX8_levelThen_27 : decode cX8_levelThen 27 = .ok (.iaload, 1) := by decide +kernel
theorem dX8_levelThen_28 : decode cX8_levelThen 28 = .ok (.if_icmp .ne 7, 3) := by decide +kernel
theorem dX8_levelThen_31 : decode cX8_levelThen 31 = .ok (.iconst 1, 1) := by decide +kernel
theorem dX8_levelThen_32 : decode cX8_levelThen 32 = .ok (.goto 4, 3) := by decide +kernel
theorem dX8_levelThen_35 : decode cX8_levelThen 35 = .ok (.iconst 0, 1) := by decide +kernel
theorem dX8_levelThen_36 : decode cX8_levelThen 36 = .ok (.istore_n 3, 1) := by decide +kernel
theorem dX8_levelThen_37 : decode cX8_levelThen 37 = .ok (.aload_n 0, 1) := by decide +kernel
theorem dX8_levelThen_38 : decode cX8_levelThen 38 = .ok (.getfield 83, 3) := by decide +kernel
theorem dX8_levelThen_41 : decode cX8_levelThen 41 = .ok (.iload_n 1, 1) := by decide +kernel
theorem dX8_levelThen_42 : decode cX8_levelThen 42 = .ok (.iaload, 1) := by decide +kernel
theorem dX8_levelThen_43 : decode cX8_levelThen 43 = .ok (.tableswitch 95 0 3 #[29, 31, 52, 73], 29) := by decide +kernel
theorem dX8_levelThen_72 : decode cX8_levelThen 72 = .ok (.iconst 0, 1) := by decide +kernel
theorem dX8_levelThen_73 : decode cX8_levelThen 73 = .ok (.ireturn, 1) := by decide +kernel
theorem dX8_levelThen_74 : decode cX8_levelThen 74 = .ok (.aload_n 0, 1) := by decide +kernel
theorem dX8_levelThen_75 : decode cX8_levelThen 75 = .ok (.getfield 22, 3) := by decide +kernel
theorem dX8_levelThen_78 : decode cX8_levelThen 78 = .ok (.iload_n 2, 1) := by decide +kernel
theorem dX8_levelThen_79 : decode cX8_levelThen 79 = .ok (.iaload, 1) := by decide +kernel
theorem dX8_levelThen_80 : decode cX8_levelThen 80 = .ok (.aload_n 0, 1) := by decide +kernel
theorem dX8_levelThen_81 : decode cX8_levelThen 81 = .ok (.getfield 86, 3) := by decide +kernel
theorem dX8_levelThen_84 : decode cX8_levelThen 84 = .ok (.iload_n 1, 1) := by decide +kernel
theorem dX8_levelThen_85 : decode cX8_levelThen 85 = .ok (.iaload, 1) := by decide +kernel
theorem dX8_levelThen_86 : decode cX8_levelThen 86 = .ok (.if_icmp .ge 7, 3) := by decide +kernel
theorem dX8_levelThen_89 : decode cX8_levelThen 89 = .ok (.iconst 1, 1) := by decide +kernel
theorem dX8_levelThen_90 : decode cX8_levelThen 90 = .ok (.goto 4, 3) := by decide +kernel
theorem dX8_levelThen_93 : decode cX8_levelThen 93 = .ok (.iconst 0, 1) := by decide +kernel
theorem dX8_levelThen_94 : decode cX8_levelThen 94 = .ok (.ireturn, 1) := by decide +kernel
theorem dX8_levelThen_95 : decode cX8_levelThen 95 = .ok (.aload_n 0, 1) := by decide +kernel
theorem dX8_levelThen_96 : decode cX8_levelThen 96 = .ok (.getfield 22, 3) := by decide +kernel
theorem dX8_levelThen_99 : decode cX8_levelThen 99 = .ok (.iload_n 2, 1) := by decide +kernel
theorem dX8_levelThen_100 : decode cX8_levelThen 100 = .ok (.iaload, 1) := by decide +kernel
theorem dX8_levelThen_101 : decode cX8_levelThen 101 = .ok (.aload_n 0, 1) := by decide +kernel
theorem dX8_levelThen_102 : decode cX8_levelThen 102 = .ok (.getfield 86, 3) := by decide +kernel
theorem dX8_levelThen_105 : decode cX8_levelThen 105 = .ok (.iload_n 1, 1) := by decide +kernel
theorem dX8_levelThen_106 : decode cX8_levelThen 106 = .ok (.iaload, 1) := by decide +kernel
theorem dX8_levelThen_107 : decode cX8_levelThen 107 = .ok (.if_icmp .ge 7, 3) := by decide +kernel
theorem dX8_levelThen_110 : decode cX8_levelThen 110 = .ok (.iconst 0, 1) := by decide +kernel
theorem dX8_levelThen_111 : decode cX8_levelThen 111 = .ok (.goto 4, 3) := by decide +kernel
theorem dX8_levelThen_114 : decode cX8_levelThen 114 = .ok (.iconst 1, 1) := by decide +kernel
theorem dX8_levelThen_115 : decode cX8_levelThen 115 = .ok (.ireturn, 1) := by decide +kernel
theorem dX8_levelThen_116 : decode cX8_levelThen 116 = .ok (.iload_n 3, 1) := by decide +kernel
theorem dX8_levelThen_117 : decode cX8_levelThen 117 = .ok (.ifCond .eq 14, 3) := by decide +kernel
theorem dX8_levelThen_120 : decode cX8_levelThen 120 = .ok (.iconst 1, 1) := by decide +kernel
theorem dX8_levelThen_121 : decode cX8_levelThen 121 = .ok (.aload_n 0, 1) := by decide +kernel
theorem dX8_levelThen_122 : decode cX8_levelThen 122 = .ok (.getfield 89, 3) := by decide +kernel
theorem dX8_levelThen_125 : decode cX8_levelThen 125 = .ok (.iload_n 1, 1) := by decide +kernel
theorem dX8_levelThen_126 : decode cX8_levelThen 126 = .ok (.iaload, 1) := by decide +kernel
theorem dX8_levelThen_127 : decode cX8_levelThen 127 = .ok (.isub, 1) := by decide +kernel
theorem dX8_levelThen_128 : decode cX8_levelThen 128 = .ok (.goto 9, 3) := by decide +kernel
theorem dX8_levelThen_131 : decode cX8_levelThen 131 = .ok (.aload_n 0, 1) := by decide +kernel
theorem dX8_levelThen_132 : decode cX8_levelThen 132 = .ok (.getfield 89, 3) := by decide +kernel
theorem dX8_levelThen_135 : decode cX8_levelThen 135 = .ok (.iload_n 1, 1) := by decide +kernel
theorem dX8_levelThen_136 : decode cX8_levelThen 136 = .ok (.iaload, 1) := by decide +kernel
theorem dX8_levelThen_137 : decode cX8_levelThen 137 = .ok (.ireturn, 1) := by decide +kernel
theorem dX8_levelThen_138 : decode cX8_levelThen 138 = .ok (.iload_n 3, 1) := by decide +kernel
theorem dX8_levelThen_139 : decode cX8_levelThen 139 = .ok (.ifCond .eq 7, 3) := by decide +kernel
theorem dX8_levelThen_142 : decode cX8_levelThen 142 = .ok (.iconst 1, 1) := by decide +kernel
theorem dX8_levelThen_143 : decode cX8_levelThen 143 = .ok (.goto 9, 3) := by decide +kernel
theorem dX8_levelThen_146 : decode cX8_levelThen 146 = .ok (.aload_n 0, 1) := by decide +kernel
theorem dX8_levelThen_147 : decode cX8_levelThen 147 = .ok (.getfield 89, 3) := by decide +kernel
theorem dX8_levelThen_150 : decode cX8_levelThen 150 = .ok (.iload_n 1, 1) := by decide +kernel
theorem dX8_levelThen_151 : decode cX8_levelThen 151 = .ok (.iaload, 1) := by decide +kernel
theorem dX8_levelThen_152 : decode cX8_levelThen 152 = .ok (.ireturn, 1) := by decide +kernel
set_option maxRecDepth 20000 in
theorem ggX8_channels_X8_levelThen : GoodIn wsX8_channels wsX8_levelThen := goodIn_r _ [7, 8, 9, 10, 11, 12, 2, 13, 14, 15, 16, 17, 18, 19, 20, 21, 22, 23, 24, 25, 26, 27, 28, 29, 30, 31, 32, 33, 34, 35, 36, 37, 38, 39, 40, 41, 42, 43, 44, 45, 46, 47, 48, 49, 50, 51, 52, 53, 54, 55, 56, 57] (by decide +kernel) (by decide +kernel)
set_option maxRecDepth 20000 in
theorem gX8_channels_X8_levelThen : GoodIn wsX8_channels (wsV RX8 190 RX8 yX8_levelThen wsX8_levelThen) := goodIn_app (goodIn_of _ (by decide +kernel)) ggX8_channels_X8_levelThen
theorem dX8_channels_0 : decode cX8_channels 0 = .ok (.iconst 0, 1) := by decide +kernel
theorem dX8_channels_1 : decode cX8_channels 1 = .ok (.istore_n 1, 1) := by decide +kernel
theorem dX8_channels_2 : decode cX8_channels 2 = .ok (.iload_n 1, 1) := by decide +kernel
theorem dX8_channels_3 : decode cX8_channels 3 = .ok (.iconst 4, 1) := by decide +kernel
theorem dX8_channels_4 : decode cX8_channels 4 = .ok (.if_icmp .ge 66, 3) := by decide +kernel
theorem dX8_channels_7 : decode cX8_channels 7 = .ok (.aload_n 0, 1) := by decide +kernel
theorem dX8_channels_8 : decode cX8_channels 8 = .ok (.iload_n 1, 1) := by decide +kernel
theorem dX8_channels_9 : decode cX8_channels 9 = .ok (.invokevirtual 190, 3) := by decide +kernel
theorem dX8_channels_12 : decode cX8_channels 12 = .ok (.istore_n 2, 1) := by decide +kernel
theorem dX8_channels_13 : decode cX8_channels 13 = .ok (.aload_n 0, 1) := by decide +kernel
theorem dX8_channels_14 : decode cX8_channels 14 = .ok (.getfield 92, 3) := by decide +kernel
theorem dX8_channels_17 : decode cX8_channels 17 = .ok (.iload_n 1, 1) := by decide +kernel
theorem dX8_channels_18 : decode cX8_channels 18 = .ok (.iload_n 2, 1) := by decide +kernel
theorem dX8_channels_19 : decode cX8_channels 19 = .ok (.aload_n 0, 1) := by decide +kernel
theorem dX8_channels_20 : decode cX8_channels 20 = .ok (.getfield 89, 3) := by decide +kernel
theorem dX8_channels_23 : decode cX8_channels 23 = .ok (.iload_n 1, 1) := by decide +kernel
theorem dX8_channels_24 : decode cX8_channels 24 = .ok (.iaload, 1) := by decide +kernel
theorem dX8_channels_25 : decode cX8_channels 25 = .ok (.if_icmp .eq 7, 3) := by decide +kernel
theorem dX8_channels_28 : decode cX8_channels 28 = .ok (.iconst 1, 1) := by decide +kernel
theorem dX8_channels_29 : decode cX8_channels 29 = .ok (.goto 27, 3) := by decide +kernel
theorem dX8_channels_32 : decode cX8_channels 32 = .ok (.aload_n 0, 1) := by decide +kernel
theorem dX8_channels_33 : decode cX8_channels 33 = .ok (.getfield 92, 3) := by decide +kernel
theorem dX8_channels_36 : decode cX8_channels 36 = .ok (.iload_n 1, 1) := by decide +kernel
theorem dX8_channels_37 : decode cX8_channels 37 = .ok (.iaload, 1) := by decide +kernel
theorem dX8_channels_38 : decode cX8_channels 38 = .ok (.bipush 99, 2) := by decide +kernel
theorem dX8_channels_40 : decode cX8_channels 40 = .ok (.if_icmp .ge 14, 3) := by decide +kernel
theorem dX8_channels_43 : decode cX8_channels 43 = .ok (.aload_n 0, 1) := by decide +kernel
theorem dX8_channels_44 : decode cX8_channels 44 = .ok (.getfield 92, 3) := by decide +kernel
theorem dX8_channels_47 : decode cX8_channels 47 = .ok (.iload_n 1, 1) := by decide +kernel
theorem dX8_channels_48 : decode cX8_channels 48 = .ok (.iaload, 1) := by decide +kernel
theorem dX8_channels_49 : decode cX8_channels 49 = .ok (.iconst 1, 1) := by decide +kernel
theorem dX8_channels_50 : decode cX8_channels 50 = .ok (.iadd, 1) := by decide +kernel
theorem dX8_channels_51 : decode cX8_channels 51 = .ok (.goto 5, 3) := by decide +kernel
theorem dX8_channels_54 : decode cX8_channels 54 = .ok (.bipush 99, 2) := by decide +kernel
theorem dX8_channels_56 : decode cX8_channels 56 = .ok (.iastore, 1) := by decide +kernel
theorem dX8_channels_57 : decode cX8_channels 57 = .ok (.aload_n 0, 1) := by decide +kernel
theorem dX8_channels_58 : decode cX8_channels 58 = .ok (.getfield 89, 3) := by decide +kernel
theorem dX8_channels_61 : decode cX8_channels 61 = .ok (.iload_n 1, 1) := by decide +kernel
theorem dX8_channels_62 : decode cX8_channels 62 = .ok (.iload_n 2, 1) := by decide +kernel
theorem dX8_channels_63 : decode cX8_channels 63 = .ok (.iastore, 1) := by decide +kernel
theorem dX8_channels_64 : decode cX8_channels 64 = .ok (.iinc 1 1, 3) := by decide +kernel
theorem dX8_channels_67 : decode cX8_channels 67 = .ok (.goto (-65), 3) := by decide +kernel
theorem dX8_channels_70 : decode cX8_channels 70 = .ok (.return_, 1) := by decide +kernel
theorem dX8_isOn_0 : decode cX8_isOn 0 = .ok (.aload_n 0, 1) := by decide +kernel
theorem dX8_isOn_1 : decode cX8_isOn 1 = .ok (.getfield 83, 3) := by decide +kernel
theorem dX8_isOn_4 : decode cX8_isOn 4 = .ok (.iload_n 1, 1) := by decide +kernel
theorem dX8_isOn_5 : decode cX8_isOn 5 = .ok (.iaload, 1) := by decide +kernel
theorem dX8_isOn_6 : decode cX8_isOn 6 = .ok (.ifCond .eq 41, 3) := by decide +kernel
theorem dX8_isOn_9 : decode cX8_isOn 9 = .ok (.aload_n 0, 1) := by decide +kernel
theorem dX8_isOn_10 : decode cX8_isOn 10 = .ok (.getfield 194, 3) := by decide +kernel
theorem dX8_isOn_13 : decode cX8_isOn 13 = .ok (.ifCond .ne 34, 3) := by decide +kernel
theorem dX8_isOn_16 : decode cX8_isOn 16 = .ok (.aload_n 0, 1) := by decide +kernel
theorem dX8_isOn_17 : decode cX8_isOn 17 = .ok (.getfield 89, 3) := by decide +kernel
theorem dX8_isOn_20 : decode cX8_isOn 20 = .ok (.iload_n 1, 1) := by decide +kernel
theorem dX8_isOn_21 : decode cX8_isOn 21 = .ok (.iaload, 1) := by decide +kernel
theorem dX8_isOn_22 : decode cX8_isOn 22 = .ok (.iconst 1, 1) := by decide +kernel
theorem dX8_isOn_23 : decode cX8_isOn 23 = .ok (.iload_n 2, 1) := by decide +kernel
theorem dX8_isOn_24 : decode cX8_isOn 24 = .ok (.isub, 1) := by decide +kernel
theorem dX8_isOn_25 : decode cX8_isOn 25 = .ok (.if_icmp .ne 22, 3) := by decide +kernel
theorem dX8_isOn_28 : decode cX8_isOn 28 = .ok (.aload_n 0, 1) := by decide +kernel
theorem dX8_isOn_29 : decode cX8_isOn 29 = .ok (.getfield 92, 3) := by decide +kernel
theorem dX8_isOn_32 : decode cX8_isOn 32 = .ok (.iload_n 1, 1) := by decide +kernel
theorem dX8_isOn_33 : decode cX8_isOn 33 = .ok (.iaload, 1) := by decide +kernel
theorem dX8_isOn_34 : decode cX8_isOn 34 = .ok (.aload_n 0, 1) := by decide +kernel
theorem dX8_isOn_35 : decode cX8_isOn 35 = .ok (.getfield 95, 3) := by decide +kernel
theorem dX8_isOn_38 : decode cX8_isOn 38 = .ok (.iload_n 1, 1) := by decide +kernel
theorem dX8_isOn_39 : decode cX8_isOn 39 = .ok (.iaload, 1) := by decide +kernel
theorem dX8_isOn_40 : decode cX8_isOn 40 = .ok (.if_icmp .le 7, 3) := by decide +kernel
theorem dX8_isOn_43 : decode cX8_isOn 43 = .ok (.iconst 1, 1) := by decide +kernel
theorem dX8_isOn_44 : decode cX8_isOn 44 = .ok (.goto 4, 3) := by decide +kernel
theorem dX8_isOn_47 : decode cX8_isOn 47 = .ok (.iconst 0, 1) := by decide +kernel
theorem dX8_isOn_48 : decode cX8_isOn 48 = .ok (.ireturn, 1) := by decide +kernel
set_option maxRecDepth 20000 in
theorem ggX8_pinThen_X8_isOn : GoodIn wsX8_pinThen wsX8_isOn := goodIn_r _ [8, 9, 1, 10, 11, 12, 13, 14, 15, 16, 17, 18, 19, 20, 21, 22, 23, 24, 25, 26, 27, 28, 29, 30, 31, 32, 33, 34, 35, 36, 37, 38, 39, 40, 41, 42, 43, 44, 45, 46, 47, 48, 49, 50, 51, 52, 53, 54, 55, 56, 57] (by decide +kernel) (by decide +kernel)
set_option maxRecDepth 20000 in
theorem gX8_pinThen_X8_isOn : GoodIn wsX8_pinThen (wsV RX8 198 RX8 yX8_isOn wsX8_isOn) := goodIn_app (goodIn_of _ (by decide +kernel)) ggX8_pinThen_X8_isOn
theorem dX8_pinThen_0 : decode cX8_pinThen 0 = .ok (.aload_n 0, 1) := by decide +kernel
theorem dX8_pinThen_1 : decode cX8_pinThen 1 = .ok (.getfield 194, 3) := by decide +kernel
theorem dX8_pinThen_4 : decode cX8_pinThen 4 = .ok (.ifCond .eq 14, 3) := by decide +kernel
theorem dX8_pinThen_7 : decode cX8_pinThen 7 = .ok (.aload_n 0, 1) := by decide +kernel
theorem dX8_pinThen_8 : decode cX8_pinThen 8 = .ok (.getfield 101, 3) := by decide +kernel
theorem dX8_pinThen_11 : decode cX8_pinThen 11 = .ok (.iload_n 1, 1) := by decide +kernel
theorem dX8_pinThen_12 : decode cX8_pinThen 12 = .ok (.iaload, 1) := by decide +kernel
theorem dX8_pinThen_13 : decode cX8_pinThen 13 = .ok (.iload_n 2, 1) := by decide +kernel
theorem dX8_pinThen_14 : decode cX8_pinThen 14 = .ok (.ishr, 1) := by decide +kernel
theorem dX8_pinThen_15 : decode cX8_pinThen 15 = .ok (.iconst 1, 1) := by decide +kernel
theorem dX8_pinThen_16 : decode cX8_pinThen 16 = .ok (.iand, 1) := by decide +kernel
theorem dX8_pinThen_17 : decode cX8_pinThen 17 = .ok (.ireturn, 1) := by decide +kernel
theorem dX8_pinThen_18 : decode cX8_pinThen 18 = .ok (.aload_n 0, 1) := by decide +kernel
theorem dX8_pinThen_19 : decode cX8_pinThen 19 = .ok (.iload_n 1, 1) := by decide +kernel
theorem dX8_pinThen_20 : decode cX8_pinThen 20 = .ok (.iload_n 2, 1) := by decide +kernel
theorem dX8_pinThen_21 : decode cX8_pinThen 21 = .ok (.invokevirtual 198, 3) := by decide +kernel
theorem dX8_pinThen_24 : decode cX8_pinThen 24 = .ok (.aload_n 0, 1) := by decide +kernel
theorem dX8_pinThen_25 : decode cX8_pinThen 25 = .ok (.getfield 98, 3) := by decide +kernel
theorem dX8_pinThen_28 : decode cX8_pinThen 28 = .ok (.iload_n 1, 1) := by decide +kernel
theorem dX8_pinThen_29 : decode cX8_pinThen 29 = .ok (.iaload, 1) := by decide +kernel
theorem dX8_pinThen_30 : decode cX8_pinThen 30 = .ok (.iload_n 2, 1) := by decide +kernel
theorem dX8_pinThen_31 : decode cX8_pinThen 31 = .ok (.ishr, 1) := by decide +kernel
theorem dX8_pinThen_32 : decode cX8_pinThen 32 = .ok (.iconst 1, 1) := by decide +kernel
theorem dX8_pinThen_33 : decode cX8_pinThen 33 = .ok (.iand, 1) := by decide +kernel
theorem dX8_pinThen_34 : decode cX8_pinThen 34 = .ok (.iconst 1, 1) := by decide +kernel
theorem dX8_pinThen_35 : decode cX8_pinThen 35 = .ok (.if_icmp .ne 7, 3) := by decide +kernel
theorem dX8_pinThen_38 : decode cX8_pinThen 38 = .ok (.iconst 1, 1) := by decide +kernel
theorem dX8_pinThen_39 : decode cX8_pinThen 39 = .ok (.goto 4, 3) := by decide +kernel
theorem dX8_pinThen_42 : decode cX8_pinThen 42 = .ok (.iconst 0, 1) := by decide +kernel
theorem dX8_pinThen_43 : decode cX8_pinThen 43 = .ok (.if_icmp .ne 7, 3) := by decide +kernel
theorem dX8_pinThen_46 : decode cX8_pinThen 46 = .ok (.iconst 0, 1) := by decide +kernel
theorem dX8_pinThen_47 : decode cX8_pinThen 47 = .ok (.goto 4, 3) := by decide +kernel
theorem dX8_pinThen_50 : decode cX8_pinThen 50 = .ok (.iconst 1, 1) := by decide +kernel
theorem dX8_pinThen_51 : decode cX8_pinThen 51 = .ok (.ireturn, 1) := by decide +kernel
theorem dX8_enters_0 : decode cX8_enters 0 = .ok (.aload_n 0, 1) := by decide +kernel
theorem dX8_enters_1 : decode cX8_enters 1 = .ok (.getfield 202, 3) := by decide +kernel
theorem dX8_enters_4 : decode cX8_enters 4 = .ok (.bipush 24, 2) := by decide +kernel
theorem dX8_enters_6 : decode cX8_enters 6 = .ok (.if_icmp .ne 69, 3) := by decide +kernel
theorem dX8_enters_9 : decode cX8_enters 9 = .ok (.iconst 1, 1) := by decide +kernel
theorem dX8_enters_10 : decode cX8_enters 10 = .ok (.istore_n 2, 1) := by decide +kernel
theorem dX8_enters_11 : decode cX8_enters 11 = .ok (.iload_n 2, 1) := by decide +kernel
theorem dX8_enters_12 : decode cX8_enters 12 = .ok (.bipush 24, 2) := by decide +kernel
theorem dX8_enters_14 : decode cX8_enters 14 = .ok (.if_icmp .ge 51, 3) := by decide +kernel
theorem dX8_enters_17 : decode cX8_enters 17 = .ok (.aload_n 0, 1) := by decide +kernel
theorem dX8_enters_18 : decode cX8_enters 18 = .ok (.getfield 107, 3) := by decide +kernel
theorem dX8_enters_21 : decode cX8_enters 21 = .ok (.iload_n 2, 1) := by decide +kernel
theorem dX8_enters_22 : decode cX8_enters 22 = .ok (.iconst 1, 1) := by decide +kernel
theorem dX8_enters_23 : decode cX8_enters 23 = .ok (.isub, 1) := by decide +kernel
theorem dX8_enters_24 : decode cX8_enters 24 = .ok (.aload_n 0, 1) := by decide +kernel
theorem dX8_enters_25 : decode cX8_enters 25 = .ok (.getfield 107, 3) := by decide +kernel
theorem dX8_enters_28 : decode cX8_enters 28 = .ok (.iload_n 2, 1) := by decide +kernel
theorem dX8_enters_29 : decode cX8_enters 29 = .ok (.iaload, 1) := by decide +kernel
theorem dX8_enters_30 : decode cX8_enters 30 = .ok (.iastore, 1) := by decide +kernel
theorem dX8_enters_31 : decode cX8_enters 31 = .ok (.aload_n 0, 1) := by decide +kernel
theorem dX8_enters_32 : decode cX8_enters 32 = .ok (.getfield 110, 3) := by decide +kernel
theorem dX8_enters_35 : decode cX8_enters 35 = .ok (.iload_n 2, 1) := by decide +kernel
theorem dX8_enters_36 : decode cX8_enters 36 = .ok (.iconst 1, 1) := by decide +kernel
theorem dX8_enters_37 : decode cX8_enters 37 = .ok (.isub, 1) := by decide +kernel
theorem dX8_enters_38 : decode cX8_enters 38 = .ok (.aload_n 0, 1) := by decide +kernel
theorem dX8_enters_39 : decode cX8_enters 39 = .ok (.getfield 110, 3) := by decide +kernel
theorem dX8_enters_42 : decode cX8_enters 42 = .ok (.iload_n 2, 1) := by decide +kernel
theorem dX8_enters_43 : decode cX8_enters 43 = .ok (.iaload, 1) := by decide +kernel
theorem dX8_enters_44 : decode cX8_enters 44 = .ok (.iastore, 1) := by decide +kernel
theorem dX8_enters_45 : decode cX8_enters 45 = .ok (.aload_n 0, 1) := by decide +kernel
theorem dX8_enters_46 : decode cX8_enters 46 = .ok (.getfield 113, 3) := by decide +kernel
theorem dX8_enters_49 : decode cX8_enters 49 = .ok (.iload_n 2, 1) := by decide +kernel
theorem dX8_enters_50 : decode cX8_enters 50 = .ok (.iconst 1, 1) := by decide +kernel
theorem dX8_enters_51 : decode cX8_enters 51 = .ok (.isub, 1) := by decide +kernel
theorem dX8_enters_52 : decode cX8_enters 52 = .ok (.aload_n 0, 1) := by decide +kernel
theorem dX8_enters_53 : decode cX8_enters 53 = .ok (.getfield 113, 3) := by decide +kernel
theorem dX8_enters_56 : decode cX8_enters 56 = .ok (.iload_n 2, 1) := by decide +kernel
theorem dX8_enters_57 : decode cX8_enters 57 = .ok (.iaload, 1) := by decide +kernel
theorem dX8_enters_58 : decode cX8_enters 58 = .ok (.iastore, 1) := by decide +kernel
theorem dX8_enters_59 : decode cX8_enters 59 = .ok (.iinc 2 1, 3) := by decide +kernel
theorem dX8_enters_62 : decode cX8_enters 62 = .ok (.goto (-51), 3) := by decide +kernel
theorem dX8_enters_65 : decode cX8_enters 65 = .ok (.aload_n 0, 1) := by decide +kernel
theorem dX8_enters_66 : decode cX8_enters 66 = .ok (.dup, 1) := by decide +kernel
theorem dX8_enters_67 : decode cX8_enters 67 = .ok (.getfield 202, 3) := by decide +kernel
theorem dX8_enters_70 : decode cX8_enters 70 = .ok (.iconst 1, 1) := by decide +kernel
theorem dX8_enters_71 : decode cX8_enters 71 = .ok (.isub, 1) := by decide +kernel
theorem dX8_enters_72 : decode cX8_enters 72 = .ok (.putfield 202, 3) := by decide +kernel
theorem dX8_enters_75 : decode cX8_enters 75 = .ok (.aload_n 0, 1) := by decide +kernel
theorem dX8_enters_76 : decode cX8_enters 76 = .ok (.getfield 107, 3) := by decide +kernel
theorem dX8_enters_79 : decode cX8_enters 79 = .ok (.aload_n 0, 1) := by decide +kernel
theorem dX8_enters_80 : decode cX8_enters 80 = .ok (.getfield 202, 3) := by decide +kernel
theorem dX8_enters_83 : decode cX8_enters 83 = .ok (.aload_n 0, 1) := by decide +kernel
theorem dX8_enters_84 : decode cX8_enters 84 = .ok (.getfield 159, 3) := by decide +kernel
theorem dX8_enters_87 : decode cX8_enters 87 = .ok (.iastore, 1) := by decide +kernel
theorem dX8_enters_88 : decode cX8_enters 88 = .ok (.aload_n 0, 1) := by decide +kernel
theorem dX8_enters_89 : decode cX8_enters 89 = .ok (.getfield 110, 3) := by decide +kernel
theorem dX8_enters_92 : decode cX8_enters 92 = .ok (.aload_n 0, 1) := by decide +kernel
theorem dX8_enters_93 : decode cX8_enters 93 = .ok (.getfield 202, 3) := by decide +kernel
theorem dX8_enters_96 : decode cX8_enters 96 = .ok (.iload_n 1, 1) := by decide +kernel
theorem dX8_enters_97 : decode cX8_enters 97 = .ok (.iastore, 1) := by decide +kernel
theorem dX8_enters_98 : decode cX8_enters 98 = .ok (.aload_n 0, 1) := by decide +kernel
theorem dX8_enters_99 : decode cX8_enters 99 = .ok (.getfield 113, 3) := by decide +kernel
theorem dX8_enters_102 : decode cX8_enters 102 = .ok (.aload_n 0, 1) := by decide +kernel
theorem dX8_enters_103 : decode cX8_enters 103 = .ok (.getfield 202, 3) := by decide +kernel
theorem dX8_enters_106 : decode cX8_enters 106 = .ok (.aload_n 0, 1) := by decide +kernel
theorem dX8_enters_107 : decode cX8_enters 107 = .ok (.getfield 104, 3) := by decide +kernel
theorem dX8_enters_110 : decode cX8_enters 110 = .ok (.iload_n 1, 1) := by decide +kernel
theorem dX8_enters_111 : decode cX8_enters 111 = .ok (.iaload, 1) := by decide +kernel
theorem dX8_enters_112 : decode cX8_enters 112 = .ok (.iastore, 1) := by decide +kernel
theorem dX8_enters_113 : decode cX8_enters 113 = .ok (.aload_n 0, 1) := by decide +kernel
theorem dX8_enters_114 : decode cX8_enters 114 = .ok (.dup, 1) := by decide +kernel
theorem dX8_enters_115 : decode cX8_enters 115 = .ok (.getfield 202, 3) := by decide +kernel
theorem dX8_enters_118 : decode cX8_enters 118 = .ok (.iconst 1, 1) := by decide +kernel
theorem dX8_enters_119 : decode cX8_enters 119 = .ok (.iadd, 1) := by decide +kernel
theorem dX8_enters_120 : decode cX8_enters 120 = .ok (.putfield 202, 3) := by decide +kernel
theorem dX8_enters_123 : decode cX8_enters 123 = .ok (.return_, 1) := by decide +kernel
set_option maxRecDepth 20000 in
theorem ggX8_pins_X8_pinThen : GoodIn wsX8_pins wsX8_pinThen := goodIn_r _ [6, 7, 8, 9, 10, 11, 12, 5, 13, 14, 15, 16, 17, 27, 28, 29, 30, 31, 32, 33, 34, 35, 36, 37, 38, 39, 40, 41, 42, 43, 44, 45, 46, 47, 48, 49, 50, 51, 52, 53, 54, 55, 56, 57, 58, 59, 60, 61, 62, 63, 64, 65, 66, 67, 68, 69, 70, 71] (by decide +kernel) (by decide +kernel)
set_option maxRecDepth 20000 in
theorem gX8_pins_X8_pinThen : GoodIn wsX8_pins (wsV RX8 205 RX8 yX8_pinThen wsX8_pinThen) := goodIn_app (goodIn_of _ (by decide +kernel)) ggX8_pins_X8_pinThen
set_option maxRecDepth 20000 in
theorem ggX8_pins_X8_enters : GoodIn wsX8_pins wsX8_enters := goodIn_r _ [21, 22, 23, 24, 25, 26, 1, 27, 28, 29, 30, 31, 32, 33, 34, 35, 36, 37, 38, 39, 40, 41, 42, 43, 44, 45, 46, 47, 48, 49, 50, 51, 52, 53, 54, 55, 56, 57, 58, 59, 60, 61, 62, 63, 64, 65, 66, 67, 68, 69, 70, 71] (by decide +kernel) (by decide +kernel)
set_option maxRecDepth 20000 in
theorem gX8_pins_X8_enters : GoodIn wsX8_pins (wsV RX8 208 RX8 yX8_enters wsX8_enters) := goodIn_app (goodIn_of _ (by decide +kernel)) ggX8_pins_X8_enters
theorem dX8_pins_0 : decode cX8_pins 0 = .ok (.iconst 0, 1) := by decide +kernel
theorem dX8_pins_1 : decode cX8_pins 1 = .ok (.istore_n 1, 1) := by decide +kernel
theorem dX8_pins_2 : decode cX8_pins 2 = .ok (.iload_n 1, 1) := by decide +kernel
theorem dX8_pins_3 : decode cX8_pins 3 = .ok (.bipush 8, 2) := by decide +kernel
theorem dX8_pins_5 : decode cX8_pins 5 = .ok (.if_icmp .ge 42, 3) := by decide +kernel
theorem dX8_pins_8 : decode cX8_pins 8 = .ok (.aload_n 0, 1) := by decide +kernel
theorem dX8_pins_9 : decode cX8_pins 9 = .ok (.iload_n 1, 1) := by decide +kernel
theorem dX8_pins_10 : decode cX8_pins 10 = .ok (.iconst 2, 1) := by decide +kernel
theorem dX8_pins_11 : decode cX8_pins 11 = .ok (.idiv, 1) := by decide +kernel
theorem dX8_pins_12 : decode cX8_pins 12 = .ok (.iload_n 1, 1) := by decide +kernel
theorem dX8_pins_13 : decode cX8_pins 13 = .ok (.iconst 2, 1) := by decide +kernel
theorem dX8_pins_14 : decode cX8_pins 14 = .ok (.irem, 1) := by decide +kernel
theorem dX8_pins_15 : decode cX8_pins 15 = .ok (.invokevirtual 205, 3) := by decide +kernel
theorem dX8_pins_18 : decode cX8_pins 18 = .ok (.istore_n 2, 1) := by decide +kernel
theorem dX8_pins_19 : decode cX8_pins 19 = .ok (.iload_n 2, 1) := by decide +kernel
theorem dX8_pins_20 : decode cX8_pins 20 = .ok (.aload_n 0, 1) := by decide +kernel
theorem dX8_pins_21 : decode cX8_pins 21 = .ok (.getfield 104, 3) := by decide +kernel
theorem dX8_pins_24 : decode cX8_pins 24 = .ok (.iload_n 1, 1) := by decide +kernel
theorem dX8_pins_25 : decode cX8_pins 25 = .ok (.iaload, 1) := by decide +kernel
theorem dX8_pins_26 : decode cX8_pins 26 = .ok (.if_icmp .eq 15, 3) := by decide +kernel
theorem dX8_pins_29 : decode cX8_pins 29 = .ok (.aload_n 0, 1) := by decide +kernel
theorem dX8_pins_30 : decode cX8_pins 30 = .ok (.getfield 104, 3) := by decide +kernel
theorem dX8_pins_33 : decode cX8_pins 33 = .ok (.iload_n 1, 1) := by decide +kernel
theorem dX8_pins_34 : decode cX8_pins 34 = .ok (.iload_n 2, 1) := by decide +kernel
theorem dX8_pins_35 : decode cX8_pins 35 = .ok (.iastore, 1) := by decide +kernel
theorem dX8_pins_36 : decode cX8_pins 36 = .ok (.aload_n 0, 1) := by decide +kernel
theorem dX8_pins_37 : decode cX8_pins 37 = .ok (.iload_n 1, 1) := by decide +kernel
theorem dX8_pins_38 : decode cX8_pins 38 = .ok (.invokevirtual 208, 3) := by decide +kernel
theorem dX8_pins_41 : decode cX8_pins 41 = .ok (.iinc 1 1, 3) := by decide +kernel
theorem dX8_pins_44 : decode cX8_pins 44 = .ok (.goto (-42), 3) := by decide +kernel
theorem dX8_pins_47 : decode cX8_pins 47 = .ok (.return_, 1) := by decide +kernel
set_option maxRecDepth 20000 in
theorem ggX8_onOf_X8_isOn : GoodIn wsX8_onOf wsX8_isOn := goodIn_r _ [5, 6, 7, 8, 9, 10, 11, 12, 13, 14, 15, 16, 17, 18, 19, 20, 21, 22, 23, 24, 25, 26, 27, 28, 29, 30, 31, 32, 33, 34, 35, 36, 37, 38, 39, 40, 41, 42, 43, 44, 45, 46, 47, 48, 49, 50, 51, 52, 53, 54, 55] (by decide +kernel) (by decide +kernel)
set_option maxRecDepth 20000 in
theorem gX8_onOf_X8_isOn : GoodIn wsX8_onOf (wsV RX8 198 RX8 yX8_isOn wsX8_isOn) := goodIn_app (goodIn_of _ (by decide +kernel)) ggX8_onOf_X8_isOn
theorem dX8_onOf_0 : decode cX8_onOf 0 = .ok (.aload_n 0, 1) := by decide +kernel
theorem dX8_onOf_1 : decode cX8_onOf 1 = .ok (.iload_n 1, 1) := by decide +kernel
theorem dX8_onOf_2 : decode cX8_onOf 2 = .ok (.iconst 0, 1) := by decide +kernel
theorem dX8_onOf_3 : decode cX8_onOf 3 = .ok (.invokevirtual 198, 3) := by decide +kernel
theorem dX8_onOf_6 : decode cX8_onOf 6 = .ok (.ifCond .eq 7, 3) := by decide +kernel
theorem dX8_onOf_9 : decode cX8_onOf 9 = .ok (.iconst 1, 1) := by decide +kernel
theorem dX8_onOf_10 : decode cX8_onOf 10 = .ok (.goto 4, 3) := by decide +kernel
theorem dX8_onOf_13 : decode cX8_onOf 13 = .ok (.iconst 0, 1) := by decide +kernel
theorem dX8_onOf_14 : decode cX8_onOf 14 = .ok (.aload_n 0, 1) := by decide +kernel
theorem dX8_onOf_15 : decode cX8_onOf 15 = .ok (.iload_n 1, 1) := by decide +kernel
theorem dX8_onOf_16 : decode cX8_onOf 16 = .ok (.iconst 1, 1) := by decide +kernel
theorem dX8_onOf_17 : decode cX8_onOf 17 = .ok (.invokevirtual 198, 3) := by decide +kernel
theorem dX8_onOf_20 : decode cX8_onOf 20 = .ok (.ifCond .eq 7, 3) := by decide +kernel
theorem dX8_onOf_23 : decode cX8_onOf 23 = .ok (.iconst 2, 1) := by decide +kernel
theorem dX8_onOf_24 : decode cX8_onOf 24 = .ok (.goto 4, 3) := by decide +kernel
theorem dX8_onOf_27 : decode cX8_onOf 27 = .ok (.iconst 0, 1) := by decide +kernel
theorem dX8_onOf_28 : decode cX8_onOf 28 = .ok (.iadd, 1) := by decide +kernel
theorem dX8_onOf_29 : decode cX8_onOf 29 = .ok (.ireturn, 1) := by decide +kernel
set_option maxRecDepth 20000 in
theorem ggX8_ofChannel_X8_isOne : GoodIn wsX8_ofChannel wsX8_isOne := goodIn_r _ [12, 13, 14, 11, 15] (by decide +kernel) (by decide +kernel)
set_option maxRecDepth 20000 in
theorem gX8_ofChannel_X8_isOne : GoodIn wsX8_ofChannel (va_wsS RX8 130 yX8_isOne wsX8_isOne) := goodIn_app (goodIn_of _ (by decide +kernel)) ggX8_ofChannel_X8_isOne
set_option maxRecDepth 20000 in
theorem ggX8_ofChannel_X8_onOf : GoodIn wsX8_ofChannel wsX8_onOf := goodIn_r _ [19, 20, 21, 22, 11, 23, 2, 24, 4, 5, 6, 25, 26, 27, 28, 29, 30, 31, 32, 33, 34, 35, 36, 37, 38, 39, 40, 41, 42, 43, 44, 45, 46, 47, 48, 49, 50, 51, 52, 53, 54, 55, 56, 57, 58, 59, 60, 61, 62, 63, 64, 65, 66, 67, 68, 69] (by decide +kernel) (by decide +kernel)
set_option maxRecDepth 20000 in
theorem gX8_ofChannel_X8_onOf : GoodIn wsX8_ofChannel (wsV RX8 211 RX8 yX8_onOf wsX8_onOf) := goodIn_app (goodIn_of _ (by decide +kernel)) ggX8_ofChannel_X8_onOf
theorem dX8_ofChannel_0 : decode cX8_ofChannel 0 = .ok (.iload_n 1, 1) := by decide +kernel
theorem dX8_ofChannel_1 : decode cX8_ofChannel 1 = .ok (.invokestatic 130, 3) := by decide +kernel
theorem dX8_ofChannel_4 : decode cX8_ofChannel 4 = .ok (.ifCond .ne 5, 3) := by decide +kernel
theorem dX8_ofChannel_7 : decode cX8_ofChannel 7 = .ok (.iconst (-1), 1) := by decide +kernel
theorem dX8_ofChannel_8 : decode cX8_ofChannel 8 = .ok (.ireturn, 1) := by decide +kernel
theorem dX8_ofChannel_9 : decode cX8_ofChannel 9 = .ok (.iload_n 2, 1) := by decide +kernel
theorem dX8_ofChannel_10 : decode cX8_ofChannel 10 = .ok (.tableswitch 112 0 8 #[50, 57, 64, 71, 78, 85, 92, 99, 106], 50) := by decide +kernel
theorem dX8_ofChannel_60 : decode cX8_ofChannel 60 = .ok (.aload_n 0, 1) := by decide +kernel
end
section
theorem dX8_ofChannel_61 : decode cX8_ofChannel 61 = .ok (.getfield 80, 3) := by decide +kernel
theorem dX8_ofChannel_64 : decode cX8_ofChannel 64 = .ok (.iload_n 1, 1) := by decide +kernel
theorem dX8_ofChannel_65 : decode cX8_ofChannel 65 = .ok (.iaload, 1) := by decide +kernel
theorem dX8_ofChannel_66 : decode cX8_ofChannel 66 = .ok (.ireturn, 1) := by decide +kernel
theorem dX8_ofChannel_67 : decode cX8_ofChannel 67 = .ok (.aload_n 0, 1) := by decide +kernel
theorem dX8_ofChannel_68 : decode cX8_ofChannel 68 = .ok (.getfield 83, 3) := by decide +kernel
theorem dX8_ofChannel_71 : decode cX8_ofChannel 71 = .ok (.iload_n 1, 1) := by decide +kernel
theorem dX8_ofChannel_72 : decode cX8_ofChannel 72 = .ok (.iaload, 1) := by decide +kernel
theorem dX8_ofChannel_73 : decode cX8_ofChannel 73 = .ok (.ireturn, 1) := by decide +kernel
theorem dX8_ofChannel_74 : decode cX8_ofChannel 74 = .ok (.aload_n 0, 1) := by decide +kernel
theorem dX8_ofChannel_75 : decode cX8_ofChannel 75 = .ok (.getfield 86, 3) := by decide +kernel
theorem dX8_ofChannel_78 : decode cX8_ofChannel 78 = .ok (.iload_n 1, 1) := by decide +kernel
theorem dX8_ofChannel_79 : decode cX8_ofChannel 79 = .ok (.iaload, 1) := by decide +kernel
theorem dX8_ofChannel_80 : decode cX8_ofChannel 80 = .ok (.ireturn, 1) := by decide +kernel
theorem dX8_ofChannel_81 : decode cX8_ofChannel 81 = .ok (.aload_n 0, 1) := by decide +kernel
theorem dX8_ofChannel_82 : decode cX8_ofChannel 82 = .ok (.getfield 89, 3) := by decide +kernel
theorem dX8_ofChannel_85 : decode cX8_ofChannel 85 = .ok (.iload_n 1, 1) := by decide +kernel
theorem dX8_ofChannel_86 : decode cX8_ofChannel 86 = .ok (.iaload, 1) := by decide +kernel
theorem dX8_ofChannel_87 : decode cX8_ofChannel 87 = .ok (.ireturn, 1) := by decide +kernel
theorem dX8_ofChannel_88 : decode cX8_ofChannel 88 = .ok (.aload_n 0, 1) := by decide +kernel
theorem dX8_ofChannel_89 : decode cX8_ofChannel 89 = .ok (.getfield 92, 3) := by decide +kernel
theorem dX8_ofChannel_92 : decode cX8_ofChannel 92 = .ok (.iload_n 1, 1) := by decide +kernel
theorem dX8_ofChannel_93 : decode cX8_ofChannel 93 = .ok (.iaload, 1) := by decide +kernel
theorem dX8_ofChannel_94 : decode cX8_ofChannel 94 = .ok (.ireturn, 1) := by decide +kernel
theorem dX8_ofChannel_95 : decode cX8_ofChannel 95 = .ok (.aload_n 0, 1) := by decide +kernel
theorem dX8_ofChannel_96 : decode cX8_ofChannel 96 = .ok (.getfield 95, 3) := by decide +kernel
theorem dX8_ofChannel_99 : decode cX8_ofChannel 99 = .ok (.iload_n 1, 1) := by decide +kernel
theorem dX8_ofChannel_100 : decode cX8_ofChannel 100 = .ok (.iaload, 1) := by decide +kernel
theorem dX8_ofChannel_101 : decode cX8_ofChannel 101 = .ok (.ireturn, 1) := by decide +kernel
theorem dX8_ofChannel_102 : decode cX8_ofChannel 102 = .ok (.aload_n 0, 1) := by decide +kernel
theorem dX8_ofChannel_103 : decode cX8_ofChannel 103 = .ok (.getfield 98, 3) := by decide +kernel
theorem dX8_ofChannel_106 : decode cX8_ofChannel 106 = .ok (.iload_n 1, 1) := by decide +kernel
theorem dX8_ofChannel_107 : decode cX8_ofChannel 107 = .ok (.iaload, 1) := by decide +kernel
theorem dX8_ofChannel_108 : decode cX8_ofChannel 108 = .ok (.ireturn, 1) := by decide +kernel
theorem dX8_ofChannel_109 : decode cX8_ofChannel 109 = .ok (.aload_n 0, 1) := by decide +kernel
theorem dX8_ofChannel_110 : decode cX8_ofChannel 110 = .ok (.getfield 101, 3) := by decide +kernel
theorem dX8_ofChannel_113 : decode cX8_ofChannel 113 = .ok (.iload_n 1, 1) := by decide +kernel
theorem dX8_ofChannel_114 : decode cX8_ofChannel 114 = .ok (.iaload, 1) := by decide +kernel
theorem dX8_ofChannel_115 : decode cX8_ofChannel 115 = .ok (.ireturn, 1) := by decide +kernel
theorem dX8_ofChannel_116 : decode cX8_ofChannel 116 = .ok (.aload_n 0, 1) := by decide +kernel
theorem dX8_ofChannel_117 : decode cX8_ofChannel 117 = .ok (.iload_n 1, 1) := by decide +kernel
theorem dX8_ofChannel_118 : decode cX8_ofChannel 118 = .ok (.invokevirtual 211, 3) := by decide +kernel
theorem dX8_ofChannel_121 : decode cX8_ofChannel 121 = .ok (.ireturn, 1) := by decide +kernel
theorem dX8_ofChannel_122 : decode cX8_ofChannel 122 = .ok (.bipush (-2), 2) := by decide +kernel
theorem dX8_ofChannel_124 : decode cX8_ofChannel 124 = .ok (.ireturn, 1) := by decide +kernel
set_option maxRecDepth 20000 in
theorem ggX8_pin_X8_within : GoodIn wsX8_pin wsX8_within := goodIn_r _ [5] (by decide +kernel) (by decide +kernel)
set_option maxRecDepth 20000 in
theorem gX8_pin_X8_within : GoodIn wsX8_pin (va_wsS RX8 126 yX8_within wsX8_within) := goodIn_app (goodIn_of _ (by decide +kernel)) ggX8_pin_X8_within
theorem dX8_pin_0 : decode cX8_pin 0 = .ok (.iload_n 1, 1) := by decide +kernel
theorem dX8_pin_1 : decode cX8_pin 1 = .ok (.iconst 0, 1) := by decide +kernel
theorem dX8_pin_2 : decode cX8_pin 2 = .ok (.bipush 7, 2) := by decide +kernel
theorem dX8_pin_4 : decode cX8_pin 4 = .ok (.invokestatic 126, 3) := by decide +kernel
theorem dX8_pin_7 : decode cX8_pin 7 = .ok (.ifCond .eq 12, 3) := by decide +kernel
theorem dX8_pin_10 : decode cX8_pin 10 = .ok (.aload_n 0, 1) := by decide +kernel
theorem dX8_pin_11 : decode cX8_pin 11 = .ok (.getfield 104, 3) := by decide +kernel
theorem dX8_pin_14 : decode cX8_pin 14 = .ok (.iload_n 1, 1) := by decide +kernel
theorem dX8_pin_15 : decode cX8_pin 15 = .ok (.iaload, 1) := by decide +kernel
theorem dX8_pin_16 : decode cX8_pin 16 = .ok (.goto 5, 3) := by decide +kernel
theorem dX8_pin_19 : decode cX8_pin 19 = .ok (.bipush (-2), 2) := by decide +kernel
theorem dX8_pin_21 : decode cX8_pin 21 = .ok (.ireturn, 1) := by decide +kernel
set_option maxRecDepth 20000 in
theorem ggX8_brakes_X8_pins : GoodIn wsX8_brakes wsX8_pins := goodIn_r _ [6, 7, 8, 9, 10, 5, 11, 1, 12, 13, 14, 15, 16, 17, 18, 19, 20, 21, 22, 23, 24, 25, 26, 27, 28, 29, 30, 31, 32, 33, 34, 35, 36, 37, 38, 39, 40, 41, 42, 43, 44, 45, 46, 47, 48, 49, 50, 51, 52, 53, 54, 55, 56, 57, 58, 59, 60, 61, 62, 63, 64, 65, 66, 67, 68, 69, 70, 71, 72, 73, 74, 75] (by decide +kernel) (by decide +kernel)
set_option maxRecDepth 20000 in
theorem gX8_brakes_X8_pins : GoodIn wsX8_brakes (wsV RX8 184 RX8 yX8_pins wsX8_pins) := goodIn_app (goodIn_of _ (by decide +kernel)) ggX8_brakes_X8_pins
theorem dX8_brakes_0 : decode cX8_brakes 0 = .ok (.aload_n 0, 1) := by decide +kernel
theorem dX8_brakes_1 : decode cX8_brakes 1 = .ok (.getfield 194, 3) := by decide +kernel
theorem dX8_brakes_4 : decode cX8_brakes 4 = .ok (.iload_n 1, 1) := by decide +kernel
theorem dX8_brakes_5 : decode cX8_brakes 5 = .ok (.if_icmp .ne 7, 3) := by decide +kernel
theorem dX8_brakes_8 : decode cX8_brakes 8 = .ok (.iconst 0, 1) := by decide +kernel
theorem dX8_brakes_9 : decode cX8_brakes 9 = .ok (.goto 4, 3) := by decide +kernel
theorem dX8_brakes_12 : decode cX8_brakes 12 = .ok (.iconst 1, 1) := by decide +kernel
theorem dX8_brakes_13 : decode cX8_brakes 13 = .ok (.istore_n 2, 1) := by decide +kernel
theorem dX8_brakes_14 : decode cX8_brakes 14 = .ok (.aload_n 0, 1) := by decide +kernel
theorem dX8_brakes_15 : decode cX8_brakes 15 = .ok (.iload_n 1, 1) := by decide +kernel
theorem dX8_brakes_16 : decode cX8_brakes 16 = .ok (.putfield 194, 3) := by decide +kernel
theorem dX8_brakes_19 : decode cX8_brakes 19 = .ok (.aload_n 0, 1) := by decide +kernel
theorem dX8_brakes_20 : decode cX8_brakes 20 = .ok (.invokevirtual 184, 3) := by decide +kernel
theorem dX8_brakes_23 : decode cX8_brakes 23 = .ok (.iload_n 2, 1) := by decide +kernel
theorem dX8_brakes_24 : decode cX8_brakes 24 = .ok (.ireturn, 1) := by decide +kernel
set_option maxRecDepth 20000 in
theorem ggX8_brake_X8_brakes : GoodIn wsX8_brake wsX8_brakes := goodIn_r _ [5, 6, 7, 8, 9, 4, 10, 11, 12, 13, 14, 15, 16, 17, 18, 19, 20, 21, 22, 23, 24, 25, 26, 27, 28, 29, 30, 31, 32, 33, 34, 35, 36, 37, 38, 39, 40, 41, 42, 43, 44, 45, 46, 47, 48, 49, 50, 51, 52, 53, 54, 55, 56, 57, 58, 59, 60, 61, 62, 63, 64, 65, 66, 67, 68, 69, 70, 71, 72, 73, 74, 75, 76, 77, 78, 79] (by decide +kernel) (by decide +kernel)
set_option maxRecDepth 20000 in
theorem gX8_brake_X8_brakes : GoodIn wsX8_brake (wsV RX8 214 RX8 yX8_brakes wsX8_brakes) := goodIn_app (goodIn_of _ (by decide +kernel)) ggX8_brake_X8_brakes
theorem dX8_brake_0 : decode cX8_brake 0 = .ok (.aload_n 0, 1) := by decide +kernel
theorem dX8_brake_1 : decode cX8_brake 1 = .ok (.iconst 1, 1) := by decide +kernel
theorem dX8_brake_2 : decode cX8_brake 2 = .ok (.invokevirtual 214, 3) := by decide +kernel
theorem dX8_brake_5 : decode cX8_brake 5 = .ok (.ireturn, 1) := by decide +kernel
set_option maxRecDepth 20000 in
theorem ggX8_arm_X8_brakes : GoodIn wsX8_arm wsX8_brakes := goodIn_r _ [5, 6, 7, 8, 9, 4, 10, 11, 12, 13, 14, 15, 16, 17, 18, 19, 20, 21, 22, 23, 24, 25, 26, 27, 28, 29, 30, 31, 32, 33, 34, 35, 36, 37, 38, 39, 40, 41, 42, 43, 44, 45, 46, 47, 48, 49, 50, 51, 52, 53, 54, 55, 56, 57, 58, 59, 60, 61, 62, 63, 64, 65, 66, 67, 68, 69, 70, 71, 72, 73, 74, 75, 76, 77, 78, 79] (by decide +kernel) (by decide +kernel)
set_option maxRecDepth 20000 in
theorem gX8_arm_X8_brakes : GoodIn wsX8_arm (wsV RX8 214 RX8 yX8_brakes wsX8_brakes) := goodIn_app (goodIn_of _ (by decide +kernel)) ggX8_arm_X8_brakes
theorem dX8_arm_0 : decode cX8_arm 0 = .ok (.aload_n 0, 1) := by decide +kernel
theorem dX8_arm_1 : decode cX8_arm 1 = .ok (.iconst 0, 1) := by decide +kernel
theorem dX8_arm_2 : decode cX8_arm 2 = .ok (.invokevirtual 214, 3) := by decide +kernel
theorem dX8_arm_5 : decode cX8_arm 5 = .ok (.ireturn, 1) := by decide +kernel
set_option maxRecDepth 20000 in
theorem ggX8_record_X8_within : GoodIn wsX8_record wsX8_within := goodIn_r _ [8] (by decide +kernel) (by decide +kernel)
set_option maxRecDepth 20000 in
theorem gX8_record_X8_within : GoodIn wsX8_record (va_wsS RX8 126 yX8_within wsX8_within) := goodIn_app (goodIn_of _ (by decide +kernel)) ggX8_record_X8_within
theorem dX8_record_0 : decode cX8_record 0 = .ok (.iload_n 1, 1) := by decide +kernel
theorem dX8_record_1 : decode cX8_record 1 = .ok (.iconst 0, 1) := by decide +kernel
theorem dX8_record_2 : decode cX8_record 2 = .ok (.bipush 23, 2) := by decide +kernel
theorem dX8_record_4 : decode cX8_record 4 = .ok (.invokestatic 126, 3) := by decide +kernel
theorem dX8_record_7 : decode cX8_record 7 = .ok (.ifCond .eq 12, 3) := by decide +kernel
theorem dX8_record_10 : decode cX8_record 10 = .ok (.iload_n 2, 1) := by decide +kernel
theorem dX8_record_11 : decode cX8_record 11 = .ok (.iconst 0, 1) := by decide +kernel
theorem dX8_record_12 : decode cX8_record 12 = .ok (.iconst 2, 1) := by decide +kernel
theorem dX8_record_13 : decode cX8_record 13 = .ok (.invokestatic 126, 3) := by decide +kernel
theorem dX8_record_16 : decode cX8_record 16 = .ok (.ifCond .ne 6, 3) := by decide +kernel
theorem dX8_record_19 : decode cX8_record 19 = .ok (.bipush (-2), 2) := by decide +kernel
theorem dX8_record_21 : decode cX8_record 21 = .ok (.ireturn, 1) := by decide +kernel
theorem dX8_record_22 : decode cX8_record 22 = .ok (.aload_n 0, 1) := by decide +kernel
theorem dX8_record_23 : decode cX8_record 23 = .ok (.getfield 202, 3) := by decide +kernel
theorem dX8_record_26 : decode cX8_record 26 = .ok (.iconst 1, 1) := by decide +kernel
theorem dX8_record_27 : decode cX8_record 27 = .ok (.isub, 1) := by decide +kernel
theorem dX8_record_28 : decode cX8_record 28 = .ok (.iload_n 1, 1) := by decide +kernel
theorem dX8_record_29 : decode cX8_record 29 = .ok (.isub, 1) := by decide +kernel
theorem dX8_record_30 : decode cX8_record 30 = .ok (.istore_n 3, 1) := by decide +kernel
theorem dX8_record_31 : decode cX8_record 31 = .ok (.iload_n 3, 1) := by decide +kernel
theorem dX8_record_32 : decode cX8_record 32 = .ok (.ifCond .ge 6, 3) := by decide +kernel
theorem dX8_record_35 : decode cX8_record 35 = .ok (.bipush (-9), 2) := by decide +kernel
theorem dX8_record_37 : decode cX8_record 37 = .ok (.ireturn, 1) := by decide +kernel
theorem dX8_record_38 : decode cX8_record 38 = .ok (.iload_n 2, 1) := by decide +kernel
theorem dX8_record_39 : decode cX8_record 39 = .ok (.ifCond .ne 12, 3) := by decide +kernel
theorem dX8_record_42 : decode cX8_record 42 = .ok (.aload_n 0, 1) := by decide +kernel
theorem dX8_record_43 : decode cX8_record 43 = .ok (.getfield 107, 3) := by decide +kernel
theorem dX8_record_46 : decode cX8_record 46 = .ok (.iload_n 3, 1) := by decide +kernel
theorem dX8_record_47 : decode cX8_record 47 = .ok (.iaload, 1) := by decide +kernel
theorem dX8_record_48 : decode cX8_record 48 = .ok (.goto 23, 3) := by decide +kernel
theorem dX8_record_51 : decode cX8_record 51 = .ok (.iload_n 2, 1) := by decide +kernel
theorem dX8_record_52 : decode cX8_record 52 = .ok (.iconst 1, 1) := by decide +kernel
theorem dX8_record_53 : decode cX8_record 53 = .ok (.if_icmp .ne 12, 3) := by decide +kernel
theorem dX8_record_56 : decode cX8_record 56 = .ok (.aload_n 0, 1) := by decide +kernel
theorem dX8_record_57 : decode cX8_record 57 = .ok (.getfield 110, 3) := by decide +kernel
theorem dX8_record_60 : decode cX8_record 60 = .ok (.iload_n 3, 1) := by decide +kernel
theorem dX8_record_61 : decode cX8_record 61 = .ok (.iaload, 1) := by decide +kernel
theorem dX8_record_62 : decode cX8_record 62 = .ok (.goto 9, 3) := by decide +kernel
theorem dX8_record_65 : decode cX8_record 65 = .ok (.aload_n 0, 1) := by decide +kernel
theorem dX8_record_66 : decode cX8_record 66 = .ok (.getfield 113, 3) := by decide +kernel
theorem dX8_record_69 : decode cX8_record 69 = .ok (.iload_n 3, 1) := by decide +kernel
theorem dX8_record_70 : decode cX8_record 70 = .ok (.iaload, 1) := by decide +kernel
theorem dX8_record_71 : decode cX8_record 71 = .ok (.ireturn, 1) := by decide +kernel
set_option maxRecDepth 20000 in
theorem ggX8_isPair_X8_within : GoodIn wsX8_isPair wsX8_within := goodIn_r _ [4] (by decide +kernel) (by decide +kernel)
set_option maxRecDepth 20000 in
theorem gX8_isPair_X8_within : GoodIn wsX8_isPair (va_wsS RX8 126 yX8_within wsX8_within) := goodIn_app (goodIn_of _ (by decide +kernel)) ggX8_isPair_X8_within
theorem dX8_isPair_0 : decode cX8_isPair 0 = .ok (.iload_n 0, 1) := by decide +kernel
theorem dX8_isPair_1 : decode cX8_isPair 1 = .ok (.iconst 0, 1) := by decide +kernel
theorem dX8_isPair_2 : decode cX8_isPair 2 = .ok (.iconst 1, 1) := by decide +kernel
theorem dX8_isPair_3 : decode cX8_isPair 3 = .ok (.invokestatic 126, 3) := by decide +kernel
theorem dX8_isPair_6 : decode cX8_isPair 6 = .ok (.ireturn, 1) := by decide +kernel
theorem dX8_isWhole_0 : decode cX8_isWhole 0 = .ok (.iconst 2, 1) := by decide +kernel
theorem dX8_isWhole_1 : decode cX8_isWhole 1 = .ok (.iload_n 1, 1) := by decide +kernel
theorem dX8_isWhole_2 : decode cX8_isWhole 2 = .ok (.imul, 1) := by decide +kernel
theorem dX8_isWhole_3 : decode cX8_isWhole 3 = .ok (.iconst 1, 1) := by decide +kernel
theorem dX8_isWhole_4 : decode cX8_isWhole 4 = .ok (.iadd, 1) := by decide +kernel
theorem dX8_isWhole_5 : decode cX8_isWhole 5 = .ok (.istore_n 2, 1) := by decide +kernel
theorem dX8_isWhole_6 : decode cX8_isWhole 6 = .ok (.aload_n 0, 1) := by decide +kernel
theorem dX8_isWhole_7 : decode cX8_isWhole 7 = .ok (.getfield 19, 3) := by decide +kernel
theorem dX8_isWhole_10 : decode cX8_isWhole 10 = .ok (.iload_n 2, 1) := by decide +kernel
theorem dX8_isWhole_11 : decode cX8_isWhole 11 = .ok (.iaload, 1) := by decide +kernel
theorem dX8_isWhole_12 : decode cX8_isWhole 12 = .ok (.iconst 2, 1) := by decide +kernel
theorem dX8_isWhole_13 : decode cX8_isWhole 13 = .ok (.if_icmp .ne 37, 3) := by decide +kernel
theorem dX8_isWhole_16 : decode cX8_isWhole 16 = .ok (.aload_n 0, 1) := by decide +kernel
theorem dX8_isWhole_17 : decode cX8_isWhole 17 = .ok (.getfield 16, 3) := by decide +kernel
theorem dX8_isWhole_20 : decode cX8_isWhole 20 = .ok (.iload_n 2, 1) := by decide +kernel
theorem dX8_isWhole_21 : decode cX8_isWhole 21 = .ok (.iaload, 1) := by decide +kernel
theorem dX8_isWhole_22 : decode cX8_isWhole 22 = .ok (.iconst 1, 1) := by decide +kernel
theorem dX8_isWhole_23 : decode cX8_isWhole 23 = .ok (.if_icmp .ne 27, 3) := by decide +kernel
theorem dX8_isWhole_26 : decode cX8_isWhole 26 = .ok (.aload_n 0, 1) := by decide +kernel
theorem dX8_isWhole_27 : decode cX8_isWhole 27 = .ok (.getfield 7, 3) := by decide +kernel
theorem dX8_isWhole_30 : decode cX8_isWhole 30 = .ok (.iload_n 2, 1) := by decide +kernel
theorem dX8_isWhole_31 : decode cX8_isWhole 31 = .ok (.iaload, 1) := by decide +kernel
theorem dX8_isWhole_32 : decode cX8_isWhole 32 = .ok (.ifCond .ne 18, 3) := by decide +kernel
theorem dX8_isWhole_35 : decode cX8_isWhole 35 = .ok (.aload_n 0, 1) := by decide +kernel
theorem dX8_isWhole_36 : decode cX8_isWhole 36 = .ok (.getfield 7, 3) := by decide +kernel
theorem dX8_isWhole_39 : decode cX8_isWhole 39 = .ok (.iload_n 2, 1) := by decide +kernel
theorem dX8_isWhole_40 : decode cX8_isWhole 40 = .ok (.iconst 1, 1) := by decide +kernel
theorem dX8_isWhole_41 : decode cX8_isWhole 41 = .ok (.isub, 1) := by decide +kernel
theorem dX8_isWhole_42 : decode cX8_isWhole 42 = .ok (.iaload, 1) := by decide +kernel
theorem dX8_isWhole_43 : decode cX8_isWhole 43 = .ok (.ifCond .ne 7, 3) := by decide +kernel
theorem dX8_isWhole_46 : decode cX8_isWhole 46 = .ok (.iconst 1, 1) := by decide +kernel
theorem dX8_isWhole_47 : decode cX8_isWhole 47 = .ok (.goto 4, 3) := by decide +kernel
theorem dX8_isWhole_50 : decode cX8_isWhole 50 = .ok (.iconst 0, 1) := by decide +kernel
theorem dX8_isWhole_51 : decode cX8_isWhole 51 = .ok (.ireturn, 1) := by decide +kernel
set_option maxRecDepth 20000 in
theorem ggX8_holds_X8_isPair : GoodIn wsX8_holds wsX8_isPair := goodIn_r _ [6, 7, 8, 5, 9] (by decide +kernel) (by decide +kernel)
set_option maxRecDepth 20000 in
theorem gX8_holds_X8_isPair : GoodIn wsX8_holds (va_wsS RX8 218 yX8_isPair wsX8_isPair) := goodIn_app (goodIn_of _ (by decide +kernel)) ggX8_holds_X8_isPair
set_option maxRecDepth 20000 in
theorem ggX8_holds_X8_within : GoodIn wsX8_holds wsX8_within := goodIn_r _ [9] (by decide +kernel) (by decide +kernel)
set_option maxRecDepth 20000 in
theorem gX8_holds_X8_within : GoodIn wsX8_holds (va_wsS RX8 126 yX8_within wsX8_within) := goodIn_app (goodIn_of _ (by decide +kernel)) ggX8_holds_X8_within
theorem dX8_holds_0 : decode cX8_holds 0 = .ok (.iload_n 1, 1) := by decide +kernel
theorem dX8_holds_1 : decode cX8_holds 1 = .ok (.invokestatic 218, 3) := by decide +kernel
theorem dX8_holds_4 : decode cX8_holds 4 = .ok (.ifCond .ne 5, 3) := by decide +kernel
theorem dX8_holds_7 : decode cX8_holds 7 = .ok (.iconst (-1), 1) := by decide +kernel
theorem dX8_holds_8 : decode cX8_holds 8 = .ok (.ireturn, 1) := by decide +kernel
theorem dX8_holds_9 : decode cX8_holds 9 = .ok (.iload_n 2, 1) := by decide +kernel
theorem dX8_holds_10 : decode cX8_holds 10 = .ok (.iconst 0, 1) := by decide +kernel
theorem dX8_holds_11 : decode cX8_holds 11 = .ok (.iconst 1, 1) := by decide +kernel
theorem dX8_holds_12 : decode cX8_holds 12 = .ok (.invokestatic 126, 3) := by decide +kernel
theorem dX8_holds_15 : decode cX8_holds 15 = .ok (.ifCond .ne 6, 3) := by decide +kernel
theorem dX8_holds_18 : decode cX8_holds 18 = .ok (.bipush (-2), 2) := by decide +kernel
theorem dX8_holds_20 : decode cX8_holds 20 = .ok (.ireturn, 1) := by decide +kernel
theorem dX8_holds_21 : decode cX8_holds 21 = .ok (.aload_n 0, 1) := by decide +kernel
theorem dX8_holds_22 : decode cX8_holds 22 = .ok (.getfield 116, 3) := by decide +kernel
theorem dX8_holds_25 : decode cX8_holds 25 = .ok (.iload_n 1, 1) := by decide +kernel
theorem dX8_holds_26 : decode cX8_holds 26 = .ok (.baload, 1) := by decide +kernel
theorem dX8_holds_27 : decode cX8_holds 27 = .ok (.ifCond .eq 7, 3) := by decide +kernel
theorem dX8_holds_30 : decode cX8_holds 30 = .ok (.iconst 1, 1) := by decide +kernel
theorem dX8_holds_31 : decode cX8_holds 31 = .ok (.goto 4, 3) := by decide +kernel
theorem dX8_holds_34 : decode cX8_holds 34 = .ok (.iconst 0, 1) := by decide +kernel
theorem dX8_holds_35 : decode cX8_holds 35 = .ok (.istore_n 3, 1) := by decide +kernel
theorem dX8_holds_36 : decode cX8_holds 36 = .ok (.aload_n 0, 1) := by decide +kernel
theorem dX8_holds_37 : decode cX8_holds 37 = .ok (.getfield 116, 3) := by decide +kernel
theorem dX8_holds_40 : decode cX8_holds 40 = .ok (.iload_n 1, 1) := by decide +kernel
theorem dX8_holds_41 : decode cX8_holds 41 = .ok (.iload_n 2, 1) := by decide +kernel
theorem dX8_holds_42 : decode cX8_holds 42 = .ok (.iconst 1, 1) := by decide +kernel
theorem dX8_holds_43 : decode cX8_holds 43 = .ok (.if_icmp .ne 7, 3) := by decide +kernel
theorem dX8_holds_46 : decode cX8_holds 46 = .ok (.iconst 1, 1) := by decide +kernel
theorem dX8_holds_47 : decode cX8_holds 47 = .ok (.goto 4, 3) := by decide +kernel
theorem dX8_holds_50 : decode cX8_holds 50 = .ok (.iconst 0, 1) := by decide +kernel
theorem dX8_holds_51 : decode cX8_holds 51 = .ok (.bastore, 1) := by decide +kernel
theorem dX8_holds_52 : decode cX8_holds 52 = .ok (.aload_n 0, 1) := by decide +kernel
theorem dX8_holds_53 : decode cX8_holds 53 = .ok (.getfield 119, 3) := by decide +kernel
theorem dX8_holds_56 : decode cX8_holds 56 = .ok (.iload_n 1, 1) := by decide +kernel
theorem dX8_holds_57 : decode cX8_holds 57 = .ok (.bipush (-9), 2) := by decide +kernel
theorem dX8_holds_59 : decode cX8_holds 59 = .ok (.iastore, 1) := by decide +kernel
theorem dX8_holds_60 : decode cX8_holds 60 = .ok (.iload_n 3, 1) := by decide +kernel
theorem dX8_holds_61 : decode cX8_holds 61 = .ok (.ireturn, 1) := by decide +kernel
set_option maxRecDepth 20000 in
theorem ggX8_read_X8_isPair : GoodIn wsX8_read wsX8_isPair := goodIn_r _ [7, 8, 9, 6, 10] (by decide +kernel) (by decide +kernel)
set_option maxRecDepth 20000 in
theorem gX8_read_X8_isPair : GoodIn wsX8_read (va_wsS RX8 218 yX8_isPair wsX8_isPair) := goodIn_app (goodIn_of _ (by decide +kernel)) ggX8_read_X8_isPair
set_option maxRecDepth 20000 in
theorem ggX8_read_X8_within : GoodIn wsX8_read wsX8_within := goodIn_r _ [10] (by decide +kernel) (by decide +kernel)
set_option maxRecDepth 20000 in
theorem gX8_read_X8_within : GoodIn wsX8_read (va_wsS RX8 126 yX8_within wsX8_within) := goodIn_app (goodIn_of _ (by decide +kernel)) ggX8_read_X8_within
set_option maxRecDepth 20000 in
theorem ggX8_read_X8_isWhole : GoodIn wsX8_read wsX8_isWhole := goodIn_r _ [14, 15, 16, 17, 18, 19, 20, 21, 22, 23, 24, 25, 26, 27, 28, 29, 30, 31, 32, 33, 34, 35, 36, 37, 38, 39, 40, 41, 42, 43, 44, 45, 46, 47, 48, 49, 50, 51, 52, 53, 54, 55, 56, 57, 58, 59, 60, 61, 62] (by decide +kernel) (by decide +kernel)
set_option maxRecDepth 20000 in
theorem gX8_read_X8_isWhole : GoodIn wsX8_read (wsV RX8 221 RX8 yX8_isWhole wsX8_isWhole) := goodIn_app (goodIn_of _ (by decide +kernel)) ggX8_read_X8_isWhole
theorem dX8_read_0 : decode cX8_read 0 = .ok (.iload_n 1, 1) := by decide +kernel
theorem dX8_read_1 : decode cX8_read 1 = .ok (.invokestatic 218, 3) := by decide +kernel
theorem dX8_read_4 : decode cX8_read 4 = .ok (.ifCond .ne 5, 3) := by decide +kernel
theorem dX8_read_7 : decode cX8_read 7 = .ok (.iconst (-1), 1) := by decide +kernel
theorem dX8_read_8 : decode cX8_read 8 = .ok (.ireturn, 1) := by decide +kernel
theorem dX8_read_9 : decode cX8_read 9 = .ok (.iload_n 2, 1) := by decide +kernel
theorem dX8_read_10 : decode cX8_read 10 = .ok (.iconst 0, 1) := by decide +kernel
theorem dX8_read_11 : decode cX8_read 11 = .ok (.iconst 1, 1) := by decide +kernel
theorem dX8_read_12 : decode cX8_read 12 = .ok (.invokestatic 126, 3) := by decide +kernel
theorem dX8_read_15 : decode cX8_read 15 = .ok (.ifCond .ne 6, 3) := by decide +kernel
theorem dX8_read_18 : decode cX8_read 18 = .ok (.bipush (-2), 2) := by decide +kernel
theorem dX8_read_20 : decode cX8_read 20 = .ok (.ireturn, 1) := by decide +kernel
theorem dX8_read_21 : decode cX8_read 21 = .ok (.aload_n 0, 1) := by decide +kernel
theorem dX8_read_22 : decode cX8_read 22 = .ok (.iload_n 1, 1) := by decide +kernel
theorem dX8_read_23 : decode cX8_read 23 = .ok (.invokevirtual 221, 3) := by decide +kernel
theorem dX8_read_26 : decode cX8_read 26 = .ok (.ifCond .ne 6, 3) := by decide +kernel
theorem dX8_read_29 : decode cX8_read 29 = .ok (.bipush (-3), 2) := by decide +kernel
theorem dX8_read_31 : decode cX8_read 31 = .ok (.ireturn, 1) := by decide +kernel
theorem dX8_read_32 : decode cX8_read 32 = .ok (.iload_n 2, 1) := by decide +kernel
theorem dX8_read_33 : decode cX8_read 33 = .ok (.ifCond .ne 28, 3) := by decide +kernel
theorem dX8_read_36 : decode cX8_read 36 = .ok (.aload_n 0, 1) := by decide +kernel
theorem dX8_read_37 : decode cX8_read 37 = .ok (.getfield 119, 3) := by decide +kernel
theorem dX8_read_40 : decode cX8_read 40 = .ok (.iload_n 1, 1) := by decide +kernel
theorem dX8_read_41 : decode cX8_read 41 = .ok (.aload_n 0, 1) := by decide +kernel
theorem dX8_read_42 : decode cX8_read 42 = .ok (.getfield 22, 3) := by decide +kernel
theorem dX8_read_45 : decode cX8_read 45 = .ok (.iconst 2, 1) := by decide +kernel
theorem dX8_read_46 : decode cX8_read 46 = .ok (.iload_n 1, 1) := by decide +kernel
theorem dX8_read_47 : decode cX8_read 47 = .ok (.imul, 1) := by decide +kernel
theorem dX8_read_48 : decode cX8_read 48 = .ok (.iconst 1, 1) := by decide +kernel
theorem dX8_read_49 : decode cX8_read 49 = .ok (.iadd, 1) := by decide +kernel
theorem dX8_read_50 : decode cX8_read 50 = .ok (.iaload, 1) := by decide +kernel
theorem dX8_read_51 : decode cX8_read 51 = .ok (.iastore, 1) := by decide +kernel
theorem dX8_read_52 : decode cX8_read 52 = .ok (.aload_n 0, 1) := by decide +kernel
theorem dX8_read_53 : decode cX8_read 53 = .ok (.getfield 22, 3) := by decide +kernel
theorem dX8_read_56 : decode cX8_read 56 = .ok (.iconst 2, 1) := by decide +kernel
theorem dX8_read_57 : decode cX8_read 57 = .ok (.iload_n 1, 1) := by decide +kernel
theorem dX8_read_58 : decode cX8_read 58 = .ok (.imul, 1) := by decide +kernel
theorem dX8_read_59 : decode cX8_read 59 = .ok (.iaload, 1) := by decide +kernel
theorem dX8_read_60 : decode cX8_read 60 = .ok (.ireturn, 1) := by decide +kernel
theorem dX8_read_61 : decode cX8_read 61 = .ok (.aload_n 0, 1) := by decide +kernel
theorem dX8_read_62 : decode cX8_read 62 = .ok (.getfield 116, 3) := by decide +kernel
theorem dX8_read_65 : decode cX8_read 65 = .ok (.iload_n 1, 1) := by decide +kernel
theorem dX8_read_66 : decode cX8_read 66 = .ok (.baload, 1) := by decide +kernel
theorem dX8_read_67 : decode cX8_read 67 = .ok (.ifCond .eq 14, 3) := by decide +kernel
theorem dX8_read_70 : decode cX8_read 70 = .ok (.aload_n 0, 1) := by decide +kernel
theorem dX8_read_71 : decode cX8_read 71 = .ok (.getfield 119, 3) := by decide +kernel
theorem dX8_read_74 : decode cX8_read 74 = .ok (.iload_n 1, 1) := by decide +kernel
theorem dX8_read_75 : decode cX8_read 75 = .ok (.iaload, 1) := by decide +kernel
theorem dX8_read_76 : decode cX8_read 76 = .ok (.bipush (-9), 2) := by decide +kernel
theorem dX8_read_78 : decode cX8_read 78 = .ok (.if_icmp .ne 14, 3) := by decide +kernel
theorem dX8_read_81 : decode cX8_read 81 = .ok (.aload_n 0, 1) := by decide +kernel
theorem dX8_read_82 : decode cX8_read 82 = .ok (.getfield 22, 3) := by decide +kernel
theorem dX8_read_85 : decode cX8_read 85 = .ok (.iconst 2, 1) := by decide +kernel
theorem dX8_read_86 : decode cX8_read 86 = .ok (.iload_n 1, 1) := by decide +kernel
theorem dX8_read_87 : decode cX8_read 87 = .ok (.imul, 1) := by decide +kernel
theorem dX8_read_88 : decode cX8_read 88 = .ok (.iconst 1, 1) := by decide +kernel
theorem dX8_read_89 : decode cX8_read 89 = .ok (.iadd, 1) := by decide +kernel
theorem dX8_read_90 : decode cX8_read 90 = .ok (.iaload, 1) := by decide +kernel
theorem dX8_read_91 : decode cX8_read 91 = .ok (.ireturn, 1) := by decide +kernel
theorem dX8_read_92 : decode cX8_read 92 = .ok (.aload_n 0, 1) := by decide +kernel
theorem dX8_read_93 : decode cX8_read 93 = .ok (.getfield 119, 3) := by decide +kernel
theorem dX8_read_96 : decode cX8_read 96 = .ok (.iload_n 1, 1) := by decide +kernel
theorem dX8_read_97 : decode cX8_read 97 = .ok (.iaload, 1) := by decide +kernel
theorem dX8_read_98 : decode cX8_read 98 = .ok (.istore_n 3, 1) := by decide +kernel
theorem dX8_read_99 : decode cX8_read 99 = .ok (.aload_n 0, 1) := by decide +kernel
theorem dX8_read_100 : decode cX8_read 100 = .ok (.getfield 119, 3) := by decide +kernel
theorem dX8_read_103 : decode cX8_read 103 = .ok (.iload_n 1, 1) := by decide +kernel
theorem dX8_read_104 : decode cX8_read 104 = .ok (.bipush (-9), 2) := by decide +kernel
theorem dX8_read_106 : decode cX8_read 106 = .ok (.iastore, 1) := by decide +kernel
theorem dX8_read_107 : decode cX8_read 107 = .ok (.iload_n 3, 1) := by decide +kernel
theorem dX8_read_108 : decode cX8_read 108 = .ok (.ireturn, 1) := by decide +kernel
set_option maxRecDepth 20000 in
theorem ggX8_wide_X8_isPair : GoodIn wsX8_wide wsX8_isPair := goodIn_r _ [6, 7, 8, 5, 9] (by decide +kernel) (by decide +kernel)
set_option maxRecDepth 20000 in
theorem gX8_wide_X8_isPair : GoodIn wsX8_wide (va_wsS RX8 218 yX8_isPair wsX8_isPair) := goodIn_app (goodIn_of _ (by decide +kernel)) ggX8_wide_X8_isPair
set_option maxRecDepth 20000 in
theorem ggX8_wide_X8_isWhole : GoodIn wsX8_wide wsX8_isWhole := goodIn_r _ [13, 14, 15, 16, 17, 18, 19, 20, 21, 22, 23, 24, 25, 26, 27, 28, 29, 30, 31, 32, 33, 34, 35, 36, 37, 38, 39, 40, 41, 42, 43, 44, 45, 46, 47, 48, 49, 50, 51, 52, 53, 54, 55, 56, 57, 58, 59, 60, 61] (by decide +kernel) (by decide +kernel)
set_option maxRecDepth 20000 in
theorem gX8_wide_X8_isWhole : GoodIn wsX8_wide (wsV RX8 221 RX8 yX8_isWhole wsX8_isWhole) := goodIn_app (goodIn_of _ (by decide +kernel)) ggX8_wide_X8_isWhole
theorem dX8_wide_0 : decode cX8_wide 0 = .ok (.iload_n 1, 1) := by decide +kernel
theorem dX8_wide_1 : decode cX8_wide 1 = .ok (.invokestatic 218, 3) := by decide +kernel
theorem dX8_wide_4 : decode cX8_wide 4 = .ok (.ifCond .ne 5, 3) := by decide +kernel
theorem dX8_wide_7 : decode cX8_wide 7 = .ok (.iconst (-1), 1) := by decide +kernel
theorem dX8_wide_8 : decode cX8_wide 8 = .ok (.ireturn, 1) := by decide +kernel
theorem dX8_wide_9 : decode cX8_wide 9 = .ok (.aload_n 0, 1) := by decide +kernel
theorem dX8_wide_10 : decode cX8_wide 10 = .ok (.iload_n 1, 1) := by decide +kernel
theorem dX8_wide_11 : decode cX8_wide 11 = .ok (.invokevirtual 221, 3) := by decide +kernel
theorem dX8_wide_14 : decode cX8_wide 14 = .ok (.ifCond .eq 36, 3) := by decide +kernel
theorem dX8_wide_17 : decode cX8_wide 17 = .ok (.aload_n 0, 1) := by decide +kernel
theorem dX8_wide_18 : decode cX8_wide 18 = .ok (.getfield 22, 3) := by decide +kernel
theorem dX8_wide_21 : decode cX8_wide 21 = .ok (.iconst 2, 1) := by decide +kernel
theorem dX8_wide_22 : decode cX8_wide 22 = .ok (.iload_n 1, 1) := by decide +kernel
theorem dX8_wide_23 : decode cX8_wide 23 = .ok (.imul, 1) := by decide +kernel
theorem dX8_wide_24 : decode cX8_wide 24 = .ok (.iconst 1, 1) := by decide +kernel
theorem dX8_wide_25 : decode cX8_wide 25 = .ok (.iadd, 1) := by decide +kernel
theorem dX8_wide_26 : decode cX8_wide 26 = .ok (.iaload, 1) := by decide +kernel
theorem dX8_wide_27 : decode cX8_wide 27 = .ok (.aload_n 0, 1) := by decide +kernel
theorem dX8_wide_28 : decode cX8_wide 28 = .ok (.getfield 13, 3) := by decide +kernel
theorem dX8_wide_31 : decode cX8_wide 31 = .ok (.iconst 2, 1) := by decide +kernel
theorem dX8_wide_32 : decode cX8_wide 32 = .ok (.iload_n 1, 1) := by decide +kernel
theorem dX8_wide_33 : decode cX8_wide 33 = .ok (.imul, 1) := by decide +kernel
theorem dX8_wide_34 : decode cX8_wide 34 = .ok (.iaload, 1) := by decide +kernel
theorem dX8_wide_35 : decode cX8_wide 35 = .ok (.iconst 1, 1) := by decide +kernel
theorem dX8_wide_36 : decode cX8_wide 36 = .ok (.iadd, 1) := by decide +kernel
theorem dX8_wide_37 : decode cX8_wide 37 = .ok (.imul, 1) := by decide +kernel
theorem dX8_wide_38 : decode cX8_wide 38 = .ok (.aload_n 0, 1) := by decide +kernel
theorem dX8_wide_39 : decode cX8_wide 39 = .ok (.getfield 22, 3) := by decide +kernel
theorem dX8_wide_42 : decode cX8_wide 42 = .ok (.iconst 2, 1) := by decide +kernel
theorem dX8_wide_43 : decode cX8_wide 43 = .ok (.iload_n 1, 1) := by decide +kernel
theorem dX8_wide_44 : decode cX8_wide 44 = .ok (.imul, 1) := by decide +kernel
theorem dX8_wide_45 : decode cX8_wide 45 = .ok (.iaload, 1) := by decide +kernel
theorem dX8_wide_46 : decode cX8_wide 46 = .ok (.iadd, 1) := by decide +kernel
theorem dX8_wide_47 : decode cX8_wide 47 = .ok (.goto 5, 3) := by decide +kernel
theorem dX8_wide_50 : decode cX8_wide 50 = .ok (.bipush (-3), 2) := by decide +kernel
theorem dX8_wide_52 : decode cX8_wide 52 = .ok (.ireturn, 1) := by decide +kernel
theorem dX8_twisted_0 : decode cX8_twisted 0 = .ok (.iload_n 0, 1) := by decide +kernel
theorem dX8_twisted_1 : decode cX8_twisted 1 = .ok (.iload_n 0, 1) := by decide +kernel
theorem dX8_twisted_2 : decode cX8_twisted 2 = .ok (.iconst 2, 1) := by decide +kernel
theorem dX8_twisted_3 : decode cX8_twisted 3 = .ok (.idiv, 1) := by decide +kernel
theorem dX8_twisted_4 : decode cX8_twisted 4 = .ok (.ixor, 1) := by decide +kernel
theorem dX8_twisted_5 : decode cX8_twisted 5 = .ok (.ireturn, 1) := by decide +kernel
theorem dX8_untwisted_0 : decode cX8_untwisted 0 = .ok (.iconst 0, 1) := by decide +kernel
theorem dX8_untwisted_1 : decode cX8_untwisted 1 = .ok (.istore_n 1, 1) := by decide +kernel
theorem dX8_untwisted_2 : decode cX8_untwisted 2 = .ok (.iload_n 0, 1) := by decide +kernel
theorem dX8_untwisted_3 : decode cX8_untwisted 3 = .ok (.istore_n 2, 1) := by decide +kernel
theorem dX8_untwisted_4 : decode cX8_untwisted 4 = .ok (.iload_n 2, 1) := by decide +kernel
theorem dX8_untwisted_5 : decode cX8_untwisted 5 = .ok (.ifCond .le 14, 3) := by decide +kernel
theorem dX8_untwisted_8 : decode cX8_untwisted 8 = .ok (.iload_n 1, 1) := by decide +kernel
theorem dX8_untwisted_9 : decode cX8_untwisted 9 = .ok (.iload_n 2, 1) := by decide +kernel
theorem dX8_untwisted_10 : decode cX8_untwisted 10 = .ok (.ixor, 1) := by decide +kernel
theorem dX8_untwisted_11 : decode cX8_untwisted 11 = .ok (.istore_n 1, 1) := by decide +kernel
theorem dX8_untwisted_12 : decode cX8_untwisted 12 = .ok (.iload_n 2, 1) := by decide +kernel
theorem dX8_untwisted_13 : decode cX8_untwisted 13 = .ok (.iconst 2, 1) := by decide +kernel
theorem dX8_untwisted_14 : decode cX8_untwisted 14 = .ok (.idiv, 1) := by decide +kernel
theorem dX8_untwisted_15 : decode cX8_untwisted 15 = .ok (.istore_n 2, 1) := by decide +kernel
theorem dX8_untwisted_16 : decode cX8_untwisted 16 = .ok (.goto (-12), 3) := by decide +kernel
theorem dX8_untwisted_19 : decode cX8_untwisted 19 = .ok (.iload_n 1, 1) := by decide +kernel
theorem dX8_untwisted_20 : decode cX8_untwisted 20 = .ok (.ireturn, 1) := by decide +kernel
set_option maxRecDepth 20000 in
theorem ggX8_sampleOf_X8_twisted : GoodIn wsX8_sampleOf wsX8_twisted := goodIn_r _ [5] (by decide +kernel) (by decide +kernel)
set_option maxRecDepth 20000 in
theorem gX8_sampleOf_X8_twisted : GoodIn wsX8_sampleOf (va_wsS RX8 227 yX8_twisted wsX8_twisted) := goodIn_app (goodIn_of _ (by decide +kernel)) ggX8_sampleOf_X8_twisted
set_option maxRecDepth 20000 in
theorem ggX8_sampleOf_X8_untwisted : GoodIn wsX8_sampleOf wsX8_untwisted := goodIn_r _ [8] (by decide +kernel) (by decide +kernel)
set_option maxRecDepth 20000 in
theorem gX8_sampleOf_X8_untwisted : GoodIn wsX8_sampleOf (va_wsS RX8 230 yX8_untwisted wsX8_untwisted) := goodIn_app (goodIn_of _ (by decide +kernel)) ggX8_sampleOf_X8_untwisted
theorem dX8_sampleOf_0 : decode cX8_sampleOf 0 = .ok (.aload_n 0, 1) := by decide +kernel
theorem dX8_sampleOf_1 : decode cX8_sampleOf 1 = .ok (.getfield 224, 3) := by decide +kernel
theorem dX8_sampleOf_4 : decode cX8_sampleOf 4 = .ok (.ifCond .ne 9, 3) := by decide +kernel
theorem dX8_sampleOf_7 : decode cX8_sampleOf 7 = .ok (.iload_n 1, 1) := by decide +kernel
theorem dX8_sampleOf_8 : decode cX8_sampleOf 8 = .ok (.iload_n 2, 1) := by decide +kernel
theorem dX8_sampleOf_9 : decode cX8_sampleOf 9 = .ok (.iand, 1) := by decide +kernel
theorem dX8_sampleOf_10 : decode cX8_sampleOf 10 = .ok (.goto 15, 3) := by decide +kernel
theorem dX8_sampleOf_13 : decode cX8_sampleOf 13 = .ok (.iload_n 1, 1) := by decide +kernel
theorem dX8_sampleOf_14 : decode cX8_sampleOf 14 = .ok (.invokestatic 227, 3) := by decide +kernel
theorem dX8_sampleOf_17 : decode cX8_sampleOf 17 = .ok (.iload_n 2, 1) := by decide +kernel
theorem dX8_sampleOf_18 : decode cX8_sampleOf 18 = .ok (.invokestatic 227, 3) := by decide +kernel
theorem dX8_sampleOf_21 : decode cX8_sampleOf 21 = .ok (.iand, 1) := by decide +kernel
theorem dX8_sampleOf_22 : decode cX8_sampleOf 22 = .ok (.invokestatic 230, 3) := by decide +kernel
theorem dX8_sampleOf_25 : decode cX8_sampleOf 25 = .ok (.ireturn, 1) := by decide +kernel
set_option maxRecDepth 20000 in
theorem ggX8_slow_X8_isOne : GoodIn wsX8_slow wsX8_isOne := goodIn_r _ [9, 10, 11, 8, 12] (by decide +kernel) (by decide +kernel)
set_option maxRecDepth 20000 in
theorem gX8_slow_X8_isOne : GoodIn wsX8_slow (va_wsS RX8 130 yX8_isOne wsX8_isOne) := goodIn_app (goodIn_of _ (by decide +kernel)) ggX8_slow_X8_isOne
set_option maxRecDepth 20000 in
theorem ggX8_slow_X8_within : GoodIn wsX8_slow wsX8_within := goodIn_r _ [12] (by decide +kernel) (by decide +kernel)
set_option maxRecDepth 20000 in
theorem gX8_slow_X8_within : GoodIn wsX8_slow (va_wsS RX8 126 yX8_within wsX8_within) := goodIn_app (goodIn_of _ (by decide +kernel)) ggX8_slow_X8_within
theorem dX8_slow_0 : decode cX8_slow 0 = .ok (.iload_n 2, 1) := by decide +kernel
theorem dX8_slow_1 : decode cX8_slow 1 = .ok (.invokestatic 130, 3) := by decide +kernel
theorem dX8_slow_4 : decode cX8_slow 4 = .ok (.ifCond .ne 5, 3) := by decide +kernel
theorem dX8_slow_7 : decode cX8_slow 7 = .ok (.iconst (-1), 1) := by decide +kernel
theorem dX8_slow_8 : decode cX8_slow 8 = .ok (.ireturn, 1) := by decide +kernel
theorem dX8_slow_9 : decode cX8_slow 9 = .ok (.iload_n 1, 1) := by decide +kernel
theorem dX8_slow_10 : decode cX8_slow 10 = .ok (.iconst 2, 1) := by decide +kernel
theorem dX8_slow_11 : decode cX8_slow 11 = .ok (.bipush 16, 2) := by decide +kernel
theorem dX8_slow_13 : decode cX8_slow 13 = .ok (.invokestatic 126, 3) := by decide +kernel
theorem dX8_slow_16 : decode cX8_slow 16 = .ok (.ifCond .eq 12, 3) := by decide +kernel
theorem dX8_slow_19 : decode cX8_slow 19 = .ok (.iload_n 3, 1) := by decide +kernel
theorem dX8_slow_20 : decode cX8_slow 20 = .ok (.iconst 0, 1) := by decide +kernel
theorem dX8_slow_21 : decode cX8_slow 21 = .ok (.iconst 1, 1) := by decide +kernel
theorem dX8_slow_22 : decode cX8_slow 22 = .ok (.invokestatic 126, 3) := by decide +kernel
theorem dX8_slow_25 : decode cX8_slow 25 = .ok (.ifCond .ne 6, 3) := by decide +kernel
theorem dX8_slow_28 : decode cX8_slow 28 = .ok (.bipush (-2), 2) := by decide +kernel
theorem dX8_slow_30 : decode cX8_slow 30 = .ok (.ireturn, 1) := by decide +kernel
theorem dX8_slow_31 : decode cX8_slow 31 = .ok (.aload_n 0, 1) := by decide +kernel
theorem dX8_slow_32 : decode cX8_slow 32 = .ok (.iload_n 1, 1) := by decide +kernel
theorem dX8_slow_33 : decode cX8_slow 33 = .ok (.putfield 122, 3) := by decide +kernel
theorem dX8_slow_36 : decode cX8_slow 36 = .ok (.aload_n 0, 1) := by decide +kernel
theorem dX8_slow_37 : decode cX8_slow 37 = .ok (.iload_n 2, 1) := by decide +kernel
theorem dX8_slow_38 : decode cX8_slow 38 = .ok (.putfield 156, 3) := by decide +kernel
theorem dX8_slow_41 : decode cX8_slow 41 = .ok (.aload_n 0, 1) := by decide +kernel
theorem dX8_slow_42 : decode cX8_slow 42 = .ok (.iload_n 3, 1) := by decide +kernel
theorem dX8_slow_43 : decode cX8_slow 43 = .ok (.putfield 224, 3) := by decide +kernel
theorem dX8_slow_46 : decode cX8_slow 46 = .ok (.aload_n 0, 1) := by decide +kernel
theorem dX8_slow_47 : decode cX8_slow 47 = .ok (.iconst 0, 1) := by decide +kernel
theorem dX8_slow_48 : decode cX8_slow 48 = .ok (.putfield 174, 3) := by decide +kernel
theorem dX8_slow_51 : decode cX8_slow 51 = .ok (.aload_n 0, 1) := by decide +kernel
theorem dX8_slow_52 : decode cX8_slow 52 = .ok (.iconst 0, 1) := by decide +kernel
theorem dX8_slow_53 : decode cX8_slow 53 = .ok (.putfield 177, 3) := by decide +kernel
theorem dX8_slow_56 : decode cX8_slow 56 = .ok (.iconst 1, 1) := by decide +kernel
theorem dX8_slow_57 : decode cX8_slow 57 = .ok (.ireturn, 1) := by decide +kernel
theorem dX8_crossed_0 : decode cX8_crossed 0 = .ok (.iload_n 1, 1) := by decide +kernel
theorem dX8_crossed_1 : decode cX8_crossed 1 = .ok (.tableswitch 60 0 4 #[35, 40, 45, 50, 55], 35) := by decide +kernel
theorem dX8_crossed_36 : decode cX8_crossed 36 = .ok (.aload_n 0, 1) := by decide +kernel
theorem dX8_crossed_37 : decode cX8_crossed 37 = .ok (.getfield 174, 3) := by decide +kernel
theorem dX8_crossed_40 : decode cX8_crossed 40 = .ok (.ireturn, 1) := by decide +kernel
theorem dX8_crossed_41 : decode cX8_crossed 41 = .ok (.aload_n 0, 1) := by decide +kernel
theorem dX8_crossed_42 : decode cX8_crossed 42 = .ok (.getfield 177, 3) := by decide +kernel
theorem dX8_crossed_45 : decode cX8_crossed 45 = .ok (.ireturn, 1) := by decide +kernel
theorem dX8_crossed_46 : decode cX8_crossed 46 = .ok (.aload_n 0, 1) := by decide +kernel
theorem dX8_crossed_47 : decode cX8_crossed 47 = .ok (.getfield 122, 3) := by decide +kernel
theorem dX8_crossed_50 : decode cX8_crossed 50 = .ok (.ireturn, 1) := by decide +kernel
theorem dX8_crossed_51 : decode cX8_crossed 51 = .ok (.aload_n 0, 1) := by decide +kernel
theorem dX8_crossed_52 : decode cX8_crossed 52 = .ok (.getfield 156, 3) := by decide +kernel
theorem dX8_crossed_55 : decode cX8_crossed 55 = .ok (.ireturn, 1) := by decide +kernel
theorem dX8_crossed_56 : decode cX8_crossed 56 = .ok (.aload_n 0, 1) := by decide +kernel
theorem dX8_crossed_57 : decode cX8_crossed 57 = .ok (.getfield 224, 3) := by decide +kernel
theorem dX8_crossed_60 : decode cX8_crossed 60 = .ok (.ireturn, 1) := by decide +kernel
theorem dX8_crossed_61 : decode cX8_crossed 61 = .ok (.bipush (-2), 2) := by decide +kernel
theorem dX8_crossed_63 : decode cX8_crossed 63 = .ok (.ireturn, 1) := by decide +kernel
set_option maxRecDepth 20000 in
theorem ggX8_many_X8_isOn : GoodIn wsX8_many wsX8_isOn := goodIn_r _ [10, 11, 4, 12, 13, 14, 15, 16, 17, 18, 19, 20, 21, 22, 23, 24, 25, 26, 27, 28, 29, 30, 31, 32, 33, 34, 35, 36, 37, 38, 39, 40, 41, 42, 43, 44, 45, 46, 47, 48, 49, 50, 51, 52, 53, 54, 55, 56, 57, 58, 59] (by decide +kernel) (by decide +kernel)
set_option maxRecDepth 20000 in
theorem gX8_many_X8_isOn : GoodIn wsX8_many (wsV RX8 198 RX8 yX8_isOn wsX8_isOn) := goodIn_app (goodIn_of _ (by decide +kernel)) ggX8_many_X8_isOn
theorem dX8_many_0 : decode cX8_many 0 = .ok (.iconst 0, 1) := by decide +kernel
theorem dX8_many_1 : decode cX8_many 1 = .ok (.istore_n 2, 1) := by decide +kernel
theorem dX8_many_2 : decode cX8_many 2 = .ok (.iconst 0, 1) := by decide +kernel
theorem dX8_many_3 : decode cX8_many 3 = .ok (.istore_n 3, 1) := by decide +kernel
theorem dX8_many_4 : decode cX8_many 4 = .ok (.iconst 0, 1) := by decide +kernel
theorem dX8_many_5 : decode cX8_many 5 = .ok (.istore 4, 2) := by decide +kernel
theorem dX8_many_7 : decode cX8_many 7 = .ok (.iconst 0, 1) := by decide +kernel
theorem dX8_many_8 : decode cX8_many 8 = .ok (.istore 5, 2) := by decide +kernel
theorem dX8_many_10 : decode cX8_many 10 = .ok (.iload 5, 2) := by decide +kernel
theorem dX8_many_12 : decode cX8_many 12 = .ok (.iconst 4, 1) := by decide +kernel
theorem dX8_many_13 : decode cX8_many 13 = .ok (.if_icmp .ge 65, 3) := by decide +kernel
theorem dX8_many_16 : decode cX8_many 16 = .ok (.iload_n 2, 1) := by decide +kernel
theorem dX8_many_17 : decode cX8_many 17 = .ok (.aload_n 0, 1) := by decide +kernel
theorem dX8_many_18 : decode cX8_many 18 = .ok (.iload 5, 2) := by decide +kernel
theorem dX8_many_20 : decode cX8_many 20 = .ok (.iconst 0, 1) := by decide +kernel
theorem dX8_many_21 : decode cX8_many 21 = .ok (.invokevirtual 198, 3) := by decide +kernel
theorem dX8_many_24 : decode cX8_many 24 = .ok (.ifCond .eq 7, 3) := by decide +kernel
theorem dX8_many_27 : decode cX8_many 27 = .ok (.iconst 1, 1) := by decide +kernel
theorem dX8_many_28 : decode cX8_many 28 = .ok (.goto 4, 3) := by decide +kernel
theorem dX8_many_31 : decode cX8_many 31 = .ok (.iconst 0, 1) := by decide +kernel
theorem dX8_many_32 : decode cX8_many 32 = .ok (.aload_n 0, 1) := by decide +kernel
theorem dX8_many_33 : decode cX8_many 33 = .ok (.iload 5, 2) := by decide +kernel
theorem dX8_many_35 : decode cX8_many 35 = .ok (.iconst 1, 1) := by decide +kernel
theorem dX8_many_36 : decode cX8_many 36 = .ok (.invokevirtual 198, 3) := by decide +kernel
theorem dX8_many_39 : decode cX8_many 39 = .ok (.ifCond .eq 7, 3) := by decide +kernel
theorem dX8_many_42 : decode cX8_many 42 = .ok (.iconst 1, 1) := by decide +kernel
theorem dX8_many_43 : decode cX8_many 43 = .ok (.goto 4, 3) := by decide +kernel
theorem dX8_many_46 : decode cX8_many 46 = .ok (.iconst 0, 1) := by decide +kernel
theorem dX8_many_47 : decode cX8_many 47 = .ok (.iadd, 1) := by decide +kernel
theorem dX8_many_48 : decode cX8_many 48 = .ok (.iadd, 1) := by decide +kernel
theorem dX8_many_49 : decode cX8_many 49 = .ok (.istore_n 2, 1) := by decide +kernel
theorem dX8_many_50 : decode cX8_many 50 = .ok (.iload_n 3, 1) := by decide +kernel
theorem dX8_many_51 : decode cX8_many 51 = .ok (.aload_n 0, 1) := by decide +kernel
theorem dX8_many_52 : decode cX8_many 52 = .ok (.getfield 74, 3) := by decide +kernel
theorem dX8_many_55 : decode cX8_many 55 = .ok (.iload 5, 2) := by decide +kernel
theorem dX8_many_57 : decode cX8_many 57 = .ok (.iaload, 1) := by decide +kernel
theorem dX8_many_58 : decode cX8_many 58 = .ok (.iadd, 1) := by decide +kernel
theorem dX8_many_59 : decode cX8_many 59 = .ok (.istore_n 3, 1) := by decide +kernel
theorem dX8_many_60 : decode cX8_many 60 = .ok (.iload 4, 2) := by decide +kernel
theorem dX8_many_62 : decode cX8_many 62 = .ok (.aload_n 0, 1) := by decide +kernel
theorem dX8_many_63 : decode cX8_many 63 = .ok (.getfield 31, 3) := by decide +kernel
theorem dX8_many_66 : decode cX8_many 66 = .ok (.iload 5, 2) := by decide +kernel
theorem dX8_many_68 : decode cX8_many 68 = .ok (.iaload, 1) := by decide +kernel
theorem dX8_many_69 : decode cX8_many 69 = .ok (.iadd, 1) := by decide +kernel
theorem dX8_many_70 : decode cX8_many 70 = .ok (.istore 4, 2) := by decide +kernel
theorem dX8_many_72 : decode cX8_many 72 = .ok (.iinc 5 1, 3) := by decide +kernel
theorem dX8_many_75 : decode cX8_many 75 = .ok (.goto (-65), 3) := by decide +kernel
theorem dX8_many_78 : decode cX8_many 78 = .ok (.iload_n 1, 1) := by decide +kernel
theorem dX8_many_79 : decode cX8_many 79 = .ok (.tableswitch 67 0 5 #[37, 42, 55, 57, 62, 64], 37) := by decide +kernel
theorem dX8_many_116 : decode cX8_many 116 = .ok (.aload_n 0, 1) := by decide +kernel
theorem dX8_many_117 : decode cX8_many 117 = .ok (.getfield 159, 3) := by decide +kernel
theorem dX8_many_120 : decode cX8_many 120 = .ok (.ireturn, 1) := by decide +kernel
theorem dX8_many_121 : decode cX8_many 121 = .ok (.aload_n 0, 1) := by decide +kernel
theorem dX8_many_122 : decode cX8_many 122 = .ok (.getfield 194, 3) := by decide +kernel
theorem dX8_many_125 : decode cX8_many 125 = .ok (.ifCond .eq 7, 3) := by decide +kernel
theorem dX8_many_128 : decode cX8_many 128 = .ok (.iconst 1, 1) := by decide +kernel
theorem dX8_many_129 : decode cX8_many 129 = .ok (.goto 4, 3) := by decide +kernel
theorem dX8_many_132 : decode cX8_many 132 = .ok (.iconst 0, 1) := by decide +kernel
theorem dX8_many_133 : decode cX8_many 133 = .ok (.ireturn, 1) := by decide +kernel
theorem dX8_many_134 : decode cX8_many 134 = .ok (.iload_n 2, 1) := by decide +kernel
theorem dX8_many_135 : decode cX8_many 135 = .ok (.ireturn, 1) := by decide +kernel
theorem dX8_many_136 : decode cX8_many 136 = .ok (.aload_n 0, 1) := by decide +kernel
theorem dX8_many_137 : decode cX8_many 137 = .ok (.getfield 202, 3) := by decide +kernel
theorem dX8_many_140 : decode cX8_many 140 = .ok (.ireturn, 1) := by decide +kernel
theorem dX8_many_141 : decode cX8_many 141 = .ok (.iload_n 3, 1) := by decide +kernel
theorem dX8_many_142 : decode cX8_many 142 = .ok (.ireturn, 1) := by decide +kernel
theorem dX8_many_143 : decode cX8_many 143 = .ok (.iload 4, 2) := by decide +kernel
theorem dX8_many_145 : decode cX8_many 145 = .ok (.ireturn, 1) := by decide +kernel
theorem dX8_many_146 : decode cX8_many 146 = .ok (.bipush (-2), 2) := by decide +kernel
theorem dX8_many_148 : decode cX8_many 148 = .ok (.ireturn, 1) := by decide +kernel
theorem dJ6_bitCount_0f7a4_0 : decode cJ6_bitCount_0f7a4 0 = .ok (.iload_n 0, 1) := by decide +kernel
theorem dJ6_bitCount_0f7a4_1 : decode cJ6_bitCount_0f7a4 1 = .ok (.iload_n 0, 1) := by decide +kernel
theorem dJ6_bitCount_0f7a4_2 : decode cJ6_bitCount_0f7a4 2 = .ok (.iconst 1, 1) := by decide +kernel
theorem dJ6_bitCount_0f7a4_3 : decode cJ6_bitCount_0f7a4 3 = .ok (.iushr, 1) := by decide +kernel
theorem dJ6_bitCount_0f7a4_4 : decode cJ6_bitCount_0f7a4 4 = .ok (.ldc_w 265, 3) := by decide +kernel
theorem dJ6_bitCount_0f7a4_7 : decode cJ6_bitCount_0f7a4 7 = .ok (.iand, 1) := by decide +kernel
theorem dJ6_bitCount_0f7a4_8 : decode cJ6_bitCount_0f7a4 8 = .ok (.isub, 1) := by decide +kernel
theorem dJ6_bitCount_0f7a4_9 : decode cJ6_bitCount_0f7a4 9 = .ok (.istore_n 0, 1) := by decide +kernel
theorem dJ6_bitCount_0f7a4_10 : decode cJ6_bitCount_0f7a4 10 = .ok (.iload_n 0, 1) := by decide +kernel
theorem dJ6_bitCount_0f7a4_11 : decode cJ6_bitCount_0f7a4 11 = .ok (.ldc_w 266, 3) := by decide +kernel
theorem dJ6_bitCount_0f7a4_14 : decode cJ6_bitCount_0f7a4 14 = .ok (.iand, 1) := by decide +kernel
theorem dJ6_bitCount_0f7a4_15 : decode cJ6_bitCount_0f7a4 15 = .ok (.iload_n 0, 1) := by decide +kernel
theorem dJ6_bitCount_0f7a4_16 : decode cJ6_bitCount_0f7a4 16 = .ok (.iconst 2, 1) := by decide +kernel
theorem dJ6_bitCount_0f7a4_17 : decode cJ6_bitCount_0f7a4 17 = .ok (.iushr, 1) := by decide +kernel
theorem dJ6_bitCount_0f7a4_18 : decode cJ6_bitCount_0f7a4 18 = .ok (.ldc_w 266, 3) := by decide +kernel
theorem dJ6_bitCount_0f7a4_21 : decode cJ6_bitCount_0f7a4 21 = .ok (.iand, 1) := by decide +kernel
theorem dJ6_bitCount_0f7a4_22 : decode cJ6_bitCount_0f7a4 22 = .ok (.iadd, 1) := by decide +kernel
theorem dJ6_bitCount_0f7a4_23 : decode cJ6_bitCount_0f7a4 23 = .ok (.istore_n 0, 1) := by decide +kernel
theorem dJ6_bitCount_0f7a4_24 : decode cJ6_bitCount_0f7a4 24 = .ok (.iload_n 0, 1) := by decide +kernel
theorem dJ6_bitCount_0f7a4_25 : decode cJ6_bitCount_0f7a4 25 = .ok (.iload_n 0, 1) := by decide +kernel
theorem dJ6_bitCount_0f7a4_26 : decode cJ6_bitCount_0f7a4 26 = .ok (.iconst 4, 1) := by decide +kernel
theorem dJ6_bitCount_0f7a4_27 : decode cJ6_bitCount_0f7a4 27 = .ok (.iushr, 1) := by decide +kernel
theorem dJ6_bitCount_0f7a4_28 : decode cJ6_bitCount_0f7a4 28 = .ok (.iadd, 1) := by decide +kernel
theorem dJ6_bitCount_0f7a4_29 : decode cJ6_bitCount_0f7a4 29 = .ok (.ldc_w 267, 3) := by decide +kernel
theorem dJ6_bitCount_0f7a4_32 : decode cJ6_bitCount_0f7a4 32 = .ok (.iand, 1) := by decide +kernel
theorem dJ6_bitCount_0f7a4_33 : decode cJ6_bitCount_0f7a4 33 = .ok (.istore_n 0, 1) := by decide +kernel
theorem dJ6_bitCount_0f7a4_34 : decode cJ6_bitCount_0f7a4 34 = .ok (.iload_n 0, 1) := by decide +kernel
theorem dJ6_bitCount_0f7a4_35 : decode cJ6_bitCount_0f7a4 35 = .ok (.iload_n 0, 1) := by decide +kernel
theorem dJ6_bitCount_0f7a4_36 : decode cJ6_bitCount_0f7a4 36 = .ok (.bipush 8, 2) := by decide +kernel
theorem dJ6_bitCount_0f7a4_38 : decode cJ6_bitCount_0f7a4 38 = .ok (.iushr, 1) := by decide +kernel
theorem dJ6_bitCount_0f7a4_39 : decode cJ6_bitCount_0f7a4 39 = .ok (.iadd, 1) := by decide +kernel
theorem dJ6_bitCount_0f7a4_40 : decode cJ6_bitCount_0f7a4 40 = .ok (.istore_n 0, 1) := by decide +kernel
theorem dJ6_bitCount_0f7a4_41 : decode cJ6_bitCount_0f7a4 41 = .ok (.iload_n 0, 1) := by decide +kernel
theorem dJ6_bitCount_0f7a4_42 : decode cJ6_bitCount_0f7a4 42 = .ok (.iload_n 0, 1) := by decide +kernel
theorem dJ6_bitCount_0f7a4_43 : decode cJ6_bitCount_0f7a4 43 = .ok (.bipush 16, 2) := by decide +kernel
theorem dJ6_bitCount_0f7a4_45 : decode cJ6_bitCount_0f7a4 45 = .ok (.iushr, 1) := by decide +kernel
theorem dJ6_bitCount_0f7a4_46 : decode cJ6_bitCount_0f7a4 46 = .ok (.iadd, 1) := by decide +kernel
theorem dJ6_bitCount_0f7a4_47 : decode cJ6_bitCount_0f7a4 47 = .ok (.istore_n 0, 1) := by decide +kernel
theorem dJ6_bitCount_0f7a4_48 : decode cJ6_bitCount_0f7a4 48 = .ok (.iload_n 0, 1) := by decide +kernel
theorem dJ6_bitCount_0f7a4_49 : decode cJ6_bitCount_0f7a4 49 = .ok (.bipush 63, 2) := by decide +kernel
theorem dJ6_bitCount_0f7a4_51 : decode cJ6_bitCount_0f7a4 51 = .ok (.iand, 1) := by decide +kernel
theorem dJ6_bitCount_0f7a4_52 : decode cJ6_bitCount_0f7a4 52 = .ok (.ireturn, 1) := by decide +kernel
theorem dJ9_min_7cf53_0 : decode cJ9_min_7cf53 0 = .ok (.iload_n 0, 1) := by decide +kernel
theorem dJ9_min_7cf53_1 : decode cJ9_min_7cf53 1 = .ok (.iload_n 1, 1) := by decide +kernel
theorem dJ9_min_7cf53_2 : decode cJ9_min_7cf53 2 = .ok (.if_icmp .gt 7, 3) := by decide +kernel
theorem dJ9_min_7cf53_5 : decode cJ9_min_7cf53 5 = .ok (.iload_n 0, 1) := by decide +kernel
theorem dJ9_min_7cf53_6 : decode cJ9_min_7cf53 6 = .ok (.goto 4, 3) := by decide +kernel
theorem dJ9_min_7cf53_9 : decode cJ9_min_7cf53 9 = .ok (.iload_n 1, 1) := by decide +kernel
theorem dJ9_min_7cf53_10 : decode cJ9_min_7cf53 10 = .ok (.ireturn, 1) := by decide +kernel
set_option maxRecDepth 20000 in
theorem ggL_law_X7_init : GoodIn wsL_law wsX7_init := goodIn_r _ [8, 9, 10, 11, 12, 13, 14, 15, 16, 17, 18, 19, 20, 21, 22, 23, 24, 25, 26, 27, 28, 29, 30, 31, 32, 33, 34, 35, 36, 37, 38, 39, 40, 41, 42, 43, 44, 45, 46, 47, 48, 49, 50, 51, 52, 53, 54, 55, 56, 57, 58, 59, 60, 61, 62, 63, 64, 65, 66, 67, 68, 69, 70, 71, 72, 73, 74, 75, 76, 77, 647, 648, 649, 650, 651, 652, 653, 654, 655, 701, 702, 703, 704, 705, 706, 707, 708, 709, 710, 711, 712, 713, 714, 715, 716, 717, 718, 719, 720, 721, 722, 723, 724, 725, 726, 727, 728, 729, 730, 731, 732, 733, 734, 735, 736, 737, 738, 739, 740, 741, 742, 743, 744] (by decide +kernel) (by decide +kernel)
set_option maxRecDepth 20000 in
theorem gL_law_X7_init : GoodIn wsL_law (wsX7_init) := ggL_law_X7_init
set_option maxRecDepth 20000 in
theorem ggL_law_X8_init : GoodIn wsL_law wsX8_init := goodIn_r _ [80, 81, 10, 11, 43, 82, 83, 84, 85, 86, 87, 88, 89, 90, 91, 92, 93, 94, 95, 96, 97, 98, 99, 100, 101, 102, 103, 104, 105, 106, 107, 108, 109, 110, 111, 112, 113, 114, 115, 116, 117, 118, 119, 120, 656, 657, 658, 659, 660, 661, 662, 663, 664, 665, 666, 667, 668, 669, 670, 671, 672, 673, 674, 675, 676, 677, 678, 679, 680, 681, 682, 683, 684, 685, 686, 687, 688, 689, 690, 691, 692, 693, 694, 695, 696, 697, 698, 699, 700] (by decide +kernel) (by decide +kernel)
set_option maxRecDepth 20000 in
theorem gL_law_X8_init : GoodIn wsL_law (wsX8_init) := ggL_law_X8_init
set_option maxRecDepth 20000 in
theorem ggL_law_X7_counter : GoodIn wsL_law wsX7_counter := goodIn_r _ [124, 13, 125, 126, 2, 127, 128, 129, 130, 131, 132, 133, 31, 134, 56, 57, 58, 135, 136, 60, 137, 61, 647, 648, 649, 650, 651, 652, 653, 654, 655, 712, 713, 714, 715, 716, 717, 718, 719, 720, 721, 722] (by decide +kernel) (by decide +kernel)
set_option maxRecDepth 20000 in
theorem gL_law_X7_counter : GoodIn wsL_law (wsV RL 13 RX7 yX7_counter wsX7_counter) := goodIn_app (goodIn_of _ (by decide +kernel)) ggL_law_X7_counter
set_option maxRecDepth 20000 in
theorem ggL_law_X8_counter : GoodIn wsL_law wsX8_counter := goodIn_r _ [141, 82, 83, 84, 86, 87, 89, 88, 90, 142, 143, 5, 144, 145, 146, 147, 656, 657, 658, 659, 660, 661, 662, 663, 664, 665, 666, 667, 668, 669, 670, 671, 672, 673, 674, 675, 676, 677, 678, 679, 680, 681, 682, 683, 684, 685, 686, 687, 688, 689, 690, 691, 692, 693, 694, 695, 696, 697, 698, 699, 700] (by decide +kernel) (by decide +kernel)
set_option maxRecDepth 20000 in
theorem gL_law_X8_counter : GoodIn wsL_law (wsV RL 17 RX8 yX8_counter wsX8_counter) := goodIn_app (goodIn_of _ (by decide +kernel)) ggL_law_X8_counter
set_option maxRecDepth 20000 in
theorem ggL_law_X7_source : GoodIn wsL_law wsX7_source := goodIn_r _ [151, 13, 152, 125, 126, 2, 127, 128, 129, 130, 647, 648, 649, 650, 651, 652, 653, 654, 655, 712, 713, 714, 715, 716, 717, 718, 719, 720, 721, 722] (by decide +kernel) (by decide +kernel)
set_option maxRecDepth 20000 in
theorem gL_law_X7_source : GoodIn wsL_law (wsV RL 18 RX7 yX7_source wsX7_source) := goodIn_app (goodIn_of _ (by decide +kernel)) ggL_law_X7_source
set_option maxRecDepth 20000 in
theorem ggL_law_X8_source : GoodIn wsL_law wsX8_source := goodIn_r _ [156, 85, 142, 143, 5, 144, 145, 146, 147, 656, 657, 658, 659, 660, 661, 662, 663, 664, 665, 666, 667, 668, 669, 670, 671, 672, 673, 674, 675, 676, 677, 678, 679, 680, 681, 682, 683, 684, 685, 686, 687, 688, 689, 690, 691, 692, 693, 694, 695, 696, 697, 698, 699, 700] (by decide +kernel) (by decide +kernel)
set_option maxRecDepth 20000 in
theorem gL_law_X8_source : GoodIn wsL_law (wsV RL 22 RX8 yX8_source wsX8_source) := goodIn_app (goodIn_of _ (by decide +kernel)) ggL_law_X8_source
set_option maxRecDepth 20000 in
theorem ggL_law_X7_count : GoodIn wsL_law wsX7_count := goodIn_r _ [160, 13, 161, 162, 125, 126, 2, 127, 128, 129, 130, 647, 648, 649, 650, 651, 652, 653, 654, 655, 712, 713, 714, 715, 716, 717, 718, 719, 720, 721, 722] (by decide +kernel) (by decide +kernel)
set_option maxRecDepth 20000 in
theorem gL_law_X7_count : GoodIn wsL_law (wsV RL 23 RX7 yX7_count wsX7_count) := goodIn_app (goodIn_of _ (by decide +kernel)) ggL_law_X7_count
set_option maxRecDepth 20000 in
theorem ggL_law_X8_count : GoodIn wsL_law wsX8_count := goodIn_r _ [166, 83, 86, 142, 143, 5, 144, 145, 146, 147, 656, 657, 658, 659, 660, 661, 662, 663, 664, 665, 666, 667, 668, 669, 670, 671, 672, 673, 674, 675, 676, 677, 678, 679, 680, 681, 682, 683, 684, 685, 686, 687, 688, 689, 690, 691, 692, 693, 694, 695, 696, 697, 698, 699, 700] (by decide +kernel) (by decide +kernel)
set_option maxRecDepth 20000 in
theorem gL_law_X8_count : GoodIn wsL_law (wsV RL 26 RX8 yX8_count wsX8_count) := goodIn_app (goodIn_of _ (by decide +kernel)) ggL_law_X8_count
set_option maxRecDepth 20000 in
theorem ggL_law_X7_top : GoodIn wsL_law wsX7_top := goodIn_r _ [170, 13, 171, 161, 125, 126, 2, 127, 128, 129, 130, 647, 648, 649, 650, 651, 652, 653, 654, 655, 712, 713, 714, 715, 716, 717, 718, 719, 720, 721, 722] (by decide +kernel) (by decide +kernel)
set_option maxRecDepth 20000 in
theorem gL_law_X7_top : GoodIn wsL_law (wsV RL 27 RX7 yX7_top wsX7_top) := goodIn_app (goodIn_of _ (by decide +kernel)) ggL_law_X7_top
set_option maxRecDepth 20000 in
theorem ggL_law_X8_top : GoodIn wsL_law wsX8_top := goodIn_r _ [175, 90, 83, 142, 143, 5, 144, 145, 146, 147, 656, 657, 658, 659, 660, 661, 662, 663, 664, 665, 666, 667, 668, 669, 670, 671, 672, 673, 674, 675, 676, 677, 678, 679, 680, 681, 682, 683, 684, 685, 686, 687, 688, 689, 690, 691, 692, 693, 694, 695, 696, 697, 698, 699, 700] (by decide +kernel) (by decide +kernel)
set_option maxRecDepth 20000 in
theorem gL_law_X8_top : GoodIn wsL_law (wsV RL 30 RX8 yX8_top wsX8_top) := goodIn_app (goodIn_of _ (by decide +kernel)) ggL_law_X8_top
set_option maxRecDepth 20000 in
theorem ggL_law_X7_ofCounter : GoodIn wsL_law wsX7_ofCounter := goodIn_r _ [179, 13, 125, 126, 2, 127, 180, 181, 182, 31, 183, 135, 57, 56, 58, 59, 136, 60, 137, 61, 647, 648, 649, 650, 651, 652, 653, 654, 655, 712, 713, 714, 715, 716, 717, 718, 719, 720, 721, 722] (by decide +kernel) (by decide +kernel)
set_option maxRecDepth 20000 in
theorem gL_law_X7_ofCounter : GoodIn wsL_law (wsV RL 31 RX7 yX7_ofCounter wsX7_ofCounter) := goodIn_app (goodIn_of _ (by decide +kernel)) ggL_law_X7_ofCounter
set_option maxRecDepth 20000 in
theorem ggL_law_X8_ofCounter : GoodIn wsL_law wsX8_ofCounter := goodIn_r _ [187, 86, 83, 82, 84, 85, 87, 88, 89, 90, 142, 143, 5, 144, 145, 146, 147, 656, 657, 658, 659, 660, 661, 662, 663, 664, 665, 666, 667, 668, 669, 670, 671, 672, 673, 674, 675, 676, 677, 678, 679, 680, 681, 682, 683, 684, 685, 686, 687, 688, 689, 690, 691, 692, 693, 694, 695, 696, 697, 698, 699, 700] (by decide +kernel) (by decide +kernel)
set_option maxRecDepth 20000 in
theorem gL_law_X8_ofCounter : GoodIn wsL_law (wsV RL 34 RX8 yX8_ofCounter wsX8_ofCounter) := goodIn_app (goodIn_of _ (by decide +kernel)) ggL_law_X8_ofCounter
set_option maxRecDepth 20000 in
theorem ggL_law_X7_input : GoodIn wsL_law wsX7_input := goodIn_r _ [191, 15, 192, 125, 126, 2, 127, 128, 129, 130, 647, 648, 649, 650, 651, 652, 653, 654, 655, 723, 724, 725, 726, 727] (by decide +kernel) (by decide +kernel)
set_option maxRecDepth 20000 in
theorem gL_law_X7_input : GoodIn wsL_law (wsV RL 35 RX7 yX7_input wsX7_input) := goodIn_app (goodIn_of _ (by decide +kernel)) ggL_law_X7_input
set_option maxRecDepth 20000 in
theorem ggL_law_X8_input : GoodIn wsL_law wsX8_input := goodIn_r _ [196, 94, 142, 143, 5, 144, 145, 146, 147, 656, 657, 658, 659, 660, 661, 662, 663, 664, 665, 666, 667, 668, 669, 670, 671, 672, 673, 674, 675, 676, 677, 678, 679, 680, 681, 682, 683, 684, 685, 686, 687, 688, 689, 690, 691, 692, 693, 694, 695, 696, 697, 698, 699, 700] (by decide +kernel) (by decide +kernel)
set_option maxRecDepth 20000 in
theorem gL_law_X8_input : GoodIn wsL_law (wsV RL 38 RX8 yX8_input wsX8_input) := goodIn_app (goodIn_of _ (by decide +kernel)) ggL_law_X8_input
set_option maxRecDepth 20000 in
theorem ggL_law_X7_filter : GoodIn wsL_law wsX7_filter := goodIn_r _ [200, 15, 201, 125, 126, 2, 127, 128, 129, 130, 647, 648, 649, 650, 651, 652, 653, 654, 655, 723, 724, 725, 726, 727] (by decide +kernel) (by decide +kernel)
set_option maxRecDepth 20000 in
theorem gL_law_X7_filter : GoodIn wsL_law (wsV RL 39 RX7 yX7_filter wsX7_filter) := goodIn_app (goodIn_of _ (by decide +kernel)) ggL_law_X7_filter
set_option maxRecDepth 20000 in
theorem ggL_law_X8_filter : GoodIn wsL_law wsX8_filter := goodIn_r _ [205, 96, 142, 143, 5, 144, 145, 146, 147, 656, 657, 658, 659, 660, 661, 662, 663, 664, 665, 666, 667, 668, 669, 670, 671, 672, 673, 674, 675, 676, 677, 678, 679, 680, 681, 682, 683, 684, 685, 686, 687, 688, 689, 690, 691, 692, 693, 694, 695, 696, 697, 698, 699, 700] (by decide +kernel) (by decide +kernel)
set_option maxRecDepth 20000 in
theorem gL_law_X8_filter : GoodIn wsL_law (wsV RL 42 RX8 yX8_filter wsX8_filter) := goodIn_app (goodIn_of _ (by decide +kernel)) ggL_law_X8_filter
set_option maxRecDepth 20000 in
theorem ggL_law_X7_ofInput : GoodIn wsL_law wsX7_ofInput := goodIn_r _ [209, 15, 125, 126, 2, 127, 210, 211, 212, 33, 213, 214, 215, 216, 65, 647, 648, 649, 650, 651, 652, 653, 654, 655, 723, 724, 725, 726, 727] (by decide +kernel) (by decide +kernel)
set_option maxRecDepth 20000 in
theorem gL_law_X7_ofInput : GoodIn wsL_law (wsV RL 43 RX7 yX7_ofInput wsX7_ofInput) := goodIn_app (goodIn_of _ (by decide +kernel)) ggL_law_X7_ofInput
set_option maxRecDepth 20000 in
theorem ggL_law_X8_ofInput : GoodIn wsL_law wsX8_ofInput := goodIn_r _ [220, 94, 95, 97, 96, 142, 143, 5, 144, 145, 146, 147, 656, 657, 658, 659, 660, 661, 662, 663, 664, 665, 666, 667, 668, 669, 670, 671, 672, 673, 674, 675, 676, 677, 678, 679, 680, 681, 682, 683, 684, 685, 686, 687, 688, 689, 690, 691, 692, 693, 694, 695, 696, 697, 698, 699, 700] (by decide +kernel) (by decide +kernel)
set_option maxRecDepth 20000 in
theorem gL_law_X8_ofInput : GoodIn wsL_law (wsV RL 46 RX8 yX8_ofInput wsX8_ofInput) := goodIn_app (goodIn_of _ (by decide +kernel)) ggL_law_X8_ofInput
set_option maxRecDepth 20000 in
theorem ggL_law_X7_catcher : GoodIn wsL_law wsX7_catcher := goodIn_r _ [224, 17, 125, 126, 2, 127, 128, 129, 130, 225, 226, 227, 35, 228, 229, 230, 69, 231, 232, 233, 234, 647, 648, 649, 650, 651, 652, 653, 654, 655, 728, 729, 730, 731, 732, 733, 734] (by decide +kernel) (by decide +kernel)
set_option maxRecDepth 20000 in
theorem gL_law_X7_catcher : GoodIn wsL_law (wsV RL 47 RX7 yX7_catcher wsX7_catcher) := goodIn_app (goodIn_of _ (by decide +kernel)) ggL_law_X7_catcher
set_option maxRecDepth 20000 in
theorem ggL_law_X8_catcher : GoodIn wsL_law wsX8_catcher := goodIn_r _ [238, 99, 100, 101, 102, 103, 104, 105, 142, 143, 5, 144, 145, 146, 147, 656, 657, 658, 659, 660, 661, 662, 663, 664, 665, 666, 667, 668, 669, 670, 671, 672, 673, 674, 675, 676, 677, 678, 679, 680, 681, 682, 683, 684, 685, 686, 687, 688, 689, 690, 691, 692, 693, 694, 695, 696, 697, 698, 699, 700] (by decide +kernel) (by decide +kernel)
set_option maxRecDepth 20000 in
theorem gL_law_X8_catcher : GoodIn wsL_law (wsV RL 50 RX8 yX8_catcher wsX8_catcher) := goodIn_app (goodIn_of _ (by decide +kernel)) ggL_law_X8_catcher
set_option maxRecDepth 20000 in
theorem ggL_law_X7_taken : GoodIn wsL_law wsX7_taken := goodIn_r _ [242, 17, 125, 126, 2, 127, 243, 244, 245, 35, 246, 233, 232, 647, 648, 649, 650, 651, 652, 653, 654, 655, 728, 729, 730, 731, 732, 733, 734] (by decide +kernel) (by decide +kernel)
set_option maxRecDepth 20000 in
theorem gL_law_X7_taken : GoodIn wsL_law (wsV RL 51 RX7 yX7_taken wsX7_taken) := goodIn_app (goodIn_of _ (by decide +kernel)) ggL_law_X7_taken
set_option maxRecDepth 20000 in
theorem ggL_law_X8_taken : GoodIn wsL_law wsX8_taken := goodIn_r _ [250, 104, 103, 142, 143, 5, 144, 145, 146, 147, 656, 657, 658, 659, 660, 661, 662, 663, 664, 665, 666, 667, 668, 669, 670, 671, 672, 673, 674, 675, 676, 677, 678, 679, 680, 681, 682, 683, 684, 685, 686, 687, 688, 689, 690, 691, 692, 693, 694, 695, 696, 697, 698, 699, 700] (by decide +kernel) (by decide +kernel)
set_option maxRecDepth 20000 in
theorem gL_law_X8_taken : GoodIn wsL_law (wsV RL 55 RX8 yX8_taken wsX8_taken) := goodIn_app (goodIn_of _ (by decide +kernel)) ggL_law_X8_taken
set_option maxRecDepth 20000 in
theorem ggL_law_X7_ofCatcher : GoodIn wsL_law wsX7_ofCatcher := goodIn_r _ [254, 17, 125, 126, 2, 127, 255, 256, 257, 35, 258, 229, 230, 69, 231, 232, 233, 234, 647, 648, 649, 650, 651, 652, 653, 654, 655, 728, 729, 730, 731, 732, 733, 734] (by decide +kernel) (by decide +kernel)
set_option maxRecDepth 20000 in
theorem gL_law_X7_ofCatcher : GoodIn wsL_law (wsV RL 56 RX7 yX7_ofCatcher wsX7_ofCatcher) := goodIn_app (goodIn_of _ (by decide +kernel)) ggL_law_X7_ofCatcher
set_option maxRecDepth 20000 in
theorem ggL_law_X8_ofCatcher : GoodIn wsL_law wsX8_ofCatcher := goodIn_r _ [262, 99, 100, 101, 102, 103, 104, 105, 142, 143, 5, 144, 145, 146, 147, 656, 657, 658, 659, 660, 661, 662, 663, 664, 665, 666, 667, 668, 669, 670, 671, 672, 673, 674, 675, 676, 677, 678, 679, 680, 681, 682, 683, 684, 685, 686, 687, 688, 689, 690, 691, 692, 693, 694, 695, 696, 697, 698, 699, 700] (by decide +kernel) (by decide +kernel)
set_option maxRecDepth 20000 in
theorem gL_law_X8_ofCatcher : GoodIn wsL_law (wsV RL 59 RX8 yX8_ofCatcher wsX8_ofCatcher) := goodIn_app (goodIn_of _ (by decide +kernel)) ggL_law_X8_ofCatcher
set_option maxRecDepth 20000 in
theorem ggL_law_X7_ticks : GoodIn wsL_law wsX7_ticks := goodIn_r _ [266, 267, 128, 129, 2, 130, 268, 269, 270, 271, 13, 29, 272, 162, 15, 17, 273, 274, 19, 275, 276, 277, 278, 279, 33, 280, 281, 214, 215, 216, 65, 282, 283, 284, 285, 152, 286, 287, 288, 289, 31, 290, 291, 292, 136, 58, 293, 294, 295, 296, 56, 297, 298, 299, 300, 135, 57, 301, 302, 303, 304, 137, 305, 306, 307, 308, 61, 309, 310, 311, 312, 313, 314, 315, 316, 60, 317, 318, 319, 35, 320, 230, 231, 69, 234, 233, 232, 321, 322, 323, 37, 324, 325, 326, 327, 328, 329, 330, 331, 332, 333, 334, 335, 336, 337, 73, 338, 339, 340, 28, 341, 342, 343, 52, 344, 345, 346, 347, 348, 349, 350, 351, 352, 353, 25, 354, 355, 356, 357, 358, 359, 360, 361, 362, 363, 364, 365, 366, 367, 368, 24, 369, 44, 45, 370, 46, 47, 371, 372, 647, 648, 649, 650, 651, 652, 653, 654, 655, 707, 708, 709, 710, 711, 712, 713, 714, 715, 716, 717, 718, 719, 720, 721, 722, 723, 724, 725, 726, 727, 728, 729, 730, 731, 732, 733, 734, 735, 736, 737, 738, 739, 740, 741, 742, 701, 702, 703, 704, 705, 706] (by decide +kernel) (by decide +kernel)
set_option maxRecDepth 20000 in
theorem gL_law_X7_ticks : GoodIn wsL_law (wsV RL 60 RX7 yX7_ticks wsX7_ticks) := goodIn_app (goodIn_of _ (by decide +kernel)) ggL_law_X7_ticks
set_option maxRecDepth 20000 in
theorem ggL_law_X8_ticks : GoodIn wsL_law wsX8_ticks := goodIn_r _ [376, 377, 145, 146, 5, 147, 378, 379, 380, 381, 86, 382, 120, 383, 384, 385, 386, 387, 388, 98, 97, 94, 95, 96, 389, 390, 391, 392, 92, 93, 87, 84, 393, 394, 395, 396, 85, 397, 398, 399, 400, 82, 401, 402, 403, 404, 83, 405, 406, 407, 408, 89, 409, 410, 411, 412, 90, 413, 414, 415, 416, 417, 418, 419, 420, 88, 421, 422, 423, 424, 100, 102, 101, 105, 104, 103, 99, 425, 426, 427, 428, 110, 109, 429, 430, 431, 432, 106, 108, 107, 433, 434, 435, 436, 437, 438, 439, 440, 441, 442, 443, 444, 445, 446, 447, 114, 448, 449, 450, 451, 452, 113, 112, 453, 454, 455, 456, 111, 457, 458, 459, 460, 461, 115, 116, 117, 656, 657, 658, 659, 660, 661, 662, 663, 664, 665, 666, 667, 668, 669, 670, 671, 672, 673, 674, 675, 676, 677, 678, 679, 680, 681, 682, 683, 684, 685, 686, 687, 688, 689, 690, 691, 692, 693, 694, 695, 696, 697, 698, 699, 700] (by decide +kernel) (by decide +kernel)
set_option maxRecDepth 20000 in
theorem gL_law_X8_ticks : GoodIn wsL_law (wsV RL 63 RX8 yX8_ticks wsX8_ticks) := goodIn_app (goodIn_of _ (by decide +kernel)) ggL_law_X8_ticks
set_option maxRecDepth 20000 in
theorem ggL_law_X7_channel : GoodIn wsL_law wsX7_channel := goodIn_r _ [465, 19, 125, 126, 2, 127, 128, 129, 130, 466, 467, 468, 37, 469, 470, 73, 337, 325, 326, 350, 351, 352, 353, 25, 354, 267, 355, 356, 357, 358, 359, 360, 361, 362, 363, 364, 365, 366, 367, 368, 24, 369, 44, 45, 370, 46, 47, 371, 372, 328, 329, 330, 647, 648, 649, 650, 651, 652, 653, 654, 655, 735, 736, 737, 738, 739, 740, 741, 742, 701, 702, 703, 704, 705, 706] (by decide +kernel) (by decide +kernel)
set_option maxRecDepth 20000 in
theorem gL_law_X7_channel : GoodIn wsL_law (wsV RL 64 RX7 yX7_channel wsX7_channel) := goodIn_app (goodIn_of _ (by decide +kernel)) ggL_law_X7_channel
set_option maxRecDepth 20000 in
theorem ggL_law_X8_channel : GoodIn wsL_law wsX8_channel := goodIn_r _ [474, 106, 107, 108, 109, 110, 142, 143, 5, 144, 145, 146, 147, 444, 445, 446, 447, 114, 448, 449, 450, 451, 452, 113, 112, 453, 454, 455, 456, 111, 457, 458, 459, 460, 461, 115, 116, 117, 377, 656, 657, 658, 659, 660, 661, 662, 663, 664, 665, 666, 667, 668, 669, 670, 671, 672, 673, 674, 675, 676, 677, 678, 679, 680, 681, 682, 683, 684, 685, 686, 687, 688, 689, 690, 691, 692, 693, 694, 695, 696, 697, 698, 699, 700] (by decide +kernel) (by decide +kernel)
set_option maxRecDepth 20000 in
theorem gL_law_X8_channel : GoodIn wsL_law (wsV RL 67 RX8 yX8_channel wsX8_channel) := goodIn_app (goodIn_of _ (by decide +kernel)) ggL_law_X8_channel
set_option maxRecDepth 20000 in
theorem ggL_law_X7_outputs : GoodIn wsL_law wsX7_outputs := goodIn_r _ [478, 19, 125, 126, 2, 127, 128, 129, 130, 479, 480, 481, 482, 483, 484, 37, 485, 365, 360, 359, 350, 351, 352, 353, 25, 354, 267, 355, 356, 357, 358, 361, 362, 363, 364, 73, 326, 325, 366, 367, 368, 24, 369, 44, 45, 370, 46, 47, 371, 372, 328, 329, 330, 647, 648, 649, 650, 651, 652, 653, 654, 655, 735, 736, 737, 738, 739, 740, 741, 742, 701, 702, 703, 704, 705, 706] (by decide +kernel) (by decide +kernel)
set_option maxRecDepth 20000 in
theorem gL_law_X7_outputs : GoodIn wsL_law (wsV RL 68 RX7 yX7_outputs wsX7_outputs) := goodIn_app (goodIn_of _ (by decide +kernel)) ggL_law_X7_outputs
set_option maxRecDepth 20000 in
theorem ggL_law_X8_outputs : GoodIn wsL_law wsX8_outputs := goodIn_r _ [489, 111, 112, 113, 142, 143, 5, 144, 145, 146, 147, 444, 445, 446, 447, 114, 448, 449, 450, 451, 452, 453, 454, 455, 456, 107, 109, 110, 457, 458, 459, 460, 461, 115, 116, 117, 377, 656, 657, 658, 659, 660, 661, 662, 663, 664, 665, 666, 667, 668, 669, 670, 671, 672, 673, 674, 675, 676, 677, 678, 679, 680, 681, 682, 683, 684, 685, 686, 687, 688, 689, 690, 691, 692, 693, 694, 695, 696, 697, 698, 699, 700] (by decide +kernel) (by decide +kernel)
set_option maxRecDepth 20000 in
theorem gL_law_X8_outputs : GoodIn wsL_law (wsV RL 71 RX8 yX8_outputs wsX8_outputs) := goodIn_app (goodIn_of _ (by decide +kernel)) ggL_law_X8_outputs
set_option maxRecDepth 20000 in
theorem ggL_law_X7_ofChannel : GoodIn wsL_law wsX7_ofChannel := goodIn_r _ [493, 19, 354, 125, 126, 2, 127, 494, 495, 496, 37, 497, 470, 73, 337, 325, 326, 365, 360, 359, 361, 362, 363, 364, 647, 648, 649, 650, 651, 652, 653, 654, 655, 735, 736, 737, 738, 739, 740, 741, 742] (by decide +kernel) (by decide +kernel)
set_option maxRecDepth 20000 in
theorem gL_law_X7_ofChannel : GoodIn wsL_law (wsV RL 72 RX7 yX7_ofChannel wsX7_ofChannel) := goodIn_app (goodIn_of _ (by decide +kernel)) ggL_law_X7_ofChannel
set_option maxRecDepth 20000 in
theorem ggL_law_X8_ofChannel : GoodIn wsL_law wsX8_ofChannel := goodIn_r _ [501, 106, 107, 108, 109, 110, 111, 112, 113, 142, 143, 5, 144, 145, 146, 147, 502, 503, 504, 505, 453, 454, 455, 456, 452, 656, 657, 658, 659, 660, 661, 662, 663, 664, 665, 666, 667, 668, 669, 670, 671, 672, 673, 674, 675, 676, 677, 678, 679, 680, 681, 682, 683, 684, 685, 686, 687, 688, 689, 690, 691, 692, 693, 694, 695, 696, 697, 698, 699, 700] (by decide +kernel) (by decide +kernel)
set_option maxRecDepth 20000 in
theorem gL_law_X8_ofChannel : GoodIn wsL_law (wsV RL 75 RX8 yX8_ofChannel wsX8_ofChannel) := goodIn_app (goodIn_of _ (by decide +kernel)) ggL_law_X8_ofChannel
set_option maxRecDepth 20000 in
theorem ggL_law_X7_pin : GoodIn wsL_law wsX7_pin := goodIn_r _ [509, 25, 510, 125, 126, 2, 127, 647, 648, 649, 650, 651, 652, 653, 654, 655, 701, 702, 703, 704, 705, 706] (by decide +kernel) (by decide +kernel)
set_option maxRecDepth 20000 in
theorem gL_law_X7_pin : GoodIn wsL_law (wsV RL 76 RX7 yX7_pin wsX7_pin) := goodIn_app (goodIn_of _ (by decide +kernel)) ggL_law_X7_pin
set_option maxRecDepth 20000 in
theorem ggL_law_X8_pin : GoodIn wsL_law wsX8_pin := goodIn_r _ [514, 114, 145, 146, 5, 147, 656, 657, 658, 659, 660, 661, 662, 663, 664, 665, 666, 667, 668, 669, 670, 671, 672, 673, 674, 675, 676, 677, 678, 679, 680, 681, 682, 683, 684, 685, 686, 687, 688, 689, 690, 691, 692, 693, 694, 695, 696, 697, 698, 699, 700] (by decide +kernel) (by decide +kernel)
set_option maxRecDepth 20000 in
theorem gL_law_X8_pin : GoodIn wsL_law (wsV RL 79 RX8 yX8_pin wsX8_pin) := goodIn_app (goodIn_of _ (by decide +kernel)) ggL_law_X8_pin
set_option maxRecDepth 20000 in
theorem ggL_law_X7_brake : GoodIn wsL_law wsX7_brake := goodIn_r _ [518, 354, 350, 351, 352, 2, 353, 25, 19, 267, 355, 356, 357, 37, 358, 359, 360, 361, 362, 363, 364, 73, 326, 365, 325, 366, 367, 368, 24, 369, 44, 45, 370, 46, 47, 371, 372, 328, 329, 330, 647, 648, 649, 650, 651, 652, 653, 654, 655, 735, 736, 737, 738, 739, 740, 741, 742, 701, 702, 703, 704, 705, 706] (by decide +kernel) (by decide +kernel)
set_option maxRecDepth 20000 in
theorem gL_law_X7_brake : GoodIn wsL_law (wsV RL 80 RX7 yX7_brake wsX7_brake) := goodIn_app (goodIn_of _ (by decide +kernel)) ggL_law_X7_brake
set_option maxRecDepth 20000 in
theorem ggL_law_X8_brake : GoodIn wsL_law wsX8_brake := goodIn_r _ [522, 523, 524, 525, 5, 526, 452, 444, 445, 446, 447, 114, 448, 449, 450, 451, 113, 112, 453, 454, 455, 456, 107, 109, 110, 111, 457, 458, 459, 460, 461, 115, 116, 117, 377, 656, 657, 658, 659, 660, 661, 662, 663, 664, 665, 666, 667, 668, 669, 670, 671, 672, 673, 674, 675, 676, 677, 678, 679, 680, 681, 682, 683, 684, 685, 686, 687, 688, 689, 690, 691, 692, 693, 694, 695, 696, 697, 698, 699, 700] (by decide +kernel) (by decide +kernel)
set_option maxRecDepth 20000 in
theorem gL_law_X8_brake : GoodIn wsL_law (wsV RL 84 RX8 yX8_brake wsX8_brake) := goodIn_app (goodIn_of _ (by decide +kernel)) ggL_law_X8_brake
set_option maxRecDepth 20000 in
theorem ggL_law_X7_arm : GoodIn wsL_law wsX7_arm := goodIn_r _ [530, 354, 350, 351, 352, 2, 353, 25, 19, 267, 355, 356, 357, 37, 358, 359, 360, 361, 362, 363, 364, 73, 326, 365, 325, 366, 367, 368, 24, 369, 44, 45, 370, 46, 47, 371, 372, 328, 329, 330, 647, 648, 649, 650, 651, 652, 653, 654, 655, 735, 736, 737, 738, 739, 740, 741, 742, 701, 702, 703, 704, 705, 706] (by decide +kernel) (by decide +kernel)
set_option maxRecDepth 20000 in
theorem gL_law_X7_arm : GoodIn wsL_law (wsV RL 85 RX7 yX7_arm wsX7_arm) := goodIn_app (goodIn_of _ (by decide +kernel)) ggL_law_X7_arm
set_option maxRecDepth 20000 in
theorem ggL_law_X8_arm : GoodIn wsL_law wsX8_arm := goodIn_r _ [534, 523, 524, 525, 5, 526, 452, 444, 445, 446, 447, 114, 448, 449, 450, 451, 113, 112, 453, 454, 455, 456, 107, 109, 110, 111, 457, 458, 459, 460, 461, 115, 116, 117, 377, 656, 657, 658, 659, 660, 661, 662, 663, 664, 665, 666, 667, 668, 669, 670, 671, 672, 673, 674, 675, 676, 677, 678, 679, 680, 681, 682, 683, 684, 685, 686, 687, 688, 689, 690, 691, 692, 693, 694, 695, 696, 697, 698, 699, 700] (by decide +kernel) (by decide +kernel)
set_option maxRecDepth 20000 in
theorem gL_law_X8_arm : GoodIn wsL_law (wsV RL 88 RX8 yX8_arm wsX8_arm) := goodIn_app (goodIn_of _ (by decide +kernel)) ggL_law_X8_arm
set_option maxRecDepth 20000 in
theorem ggL_law_X7_record : GoodIn wsL_law wsX7_record := goodIn_r _ [538, 25, 125, 126, 2, 127, 539, 540, 541, 24, 542, 371, 370, 45, 46, 47, 129, 130, 647, 648, 649, 650, 651, 652, 653, 654, 655, 701, 702, 703, 704, 705, 706] (by decide +kernel) (by decide +kernel)
set_option maxRecDepth 20000 in
theorem gL_law_X7_record : GoodIn wsL_law (wsV RL 89 RX7 yX7_record wsX7_record) := goodIn_app (goodIn_of _ (by decide +kernel)) ggL_law_X7_record
set_option maxRecDepth 20000 in
theorem ggL_law_X8_record : GoodIn wsL_law wsX8_record := goodIn_r _ [546, 461, 115, 116, 117, 145, 146, 5, 147, 656, 657, 658, 659, 660, 661, 662, 663, 664, 665, 666, 667, 668, 669, 670, 671, 672, 673, 674, 675, 676, 677, 678, 679, 680, 681, 682, 683, 684, 685, 686, 687, 688, 689, 690, 691, 692, 693, 694, 695, 696, 697, 698, 699, 700] (by decide +kernel) (by decide +kernel)
set_option maxRecDepth 20000 in
theorem gL_law_X8_record : GoodIn wsL_law (wsV RL 92 RX8 yX8_record wsX8_record) := goodIn_app (goodIn_of _ (by decide +kernel)) ggL_law_X8_record
set_option maxRecDepth 20000 in
theorem ggL_law_X7_holds : GoodIn wsL_law wsX7_holds := goodIn_r _ [550, 21, 551, 552, 125, 126, 2, 127, 128, 129, 130, 647, 648, 649, 650, 651, 652, 653, 654, 655, 743, 744] (by decide +kernel) (by decide +kernel)
set_option maxRecDepth 20000 in
theorem gL_law_X7_holds : GoodIn wsL_law (wsV RL 93 RX7 yX7_holds wsX7_holds) := goodIn_app (goodIn_of _ (by decide +kernel)) ggL_law_X7_holds
set_option maxRecDepth 20000 in
theorem ggL_law_X8_holds : GoodIn wsL_law wsX8_holds := goodIn_r _ [556, 118, 119, 557, 558, 5, 559, 145, 146, 147, 656, 657, 658, 659, 660, 661, 662, 663, 664, 665, 666, 667, 668, 669, 670, 671, 672, 673, 674, 675, 676, 677, 678, 679, 680, 681, 682, 683, 684, 685, 686, 687, 688, 689, 690, 691, 692, 693, 694, 695, 696, 697, 698, 699, 700] (by decide +kernel) (by decide +kernel)
set_option maxRecDepth 20000 in
theorem gL_law_X8_holds : GoodIn wsL_law (wsV RL 96 RX8 yX8_holds wsX8_holds) := goodIn_app (goodIn_of _ (by decide +kernel)) ggL_law_X8_holds
set_option maxRecDepth 20000 in
theorem ggL_law_X7_read : GoodIn wsL_law wsX7_read := goodIn_r _ [563, 13, 162, 21, 552, 125, 126, 2, 127, 128, 129, 130, 564, 565, 566, 567, 152, 568, 569, 570, 571, 572, 39, 573, 574, 77, 647, 648, 649, 650, 651, 652, 653, 654, 655, 712, 713, 714, 715, 716, 717, 718, 719, 720, 721, 722, 743, 744] (by decide +kernel) (by decide +kernel)
set_option maxRecDepth 20000 in
theorem gL_law_X7_read : GoodIn wsL_law (wsV RL 97 RX7 yX7_read wsX7_read) := goodIn_app (goodIn_of _ (by decide +kernel)) ggL_law_X7_read
set_option maxRecDepth 20000 in
theorem ggL_law_X8_read : GoodIn wsL_law wsX8_read := goodIn_r _ [578, 119, 86, 118, 557, 558, 5, 559, 145, 146, 147, 579, 580, 581, 582, 85, 84, 82, 656, 657, 658, 659, 660, 661, 662, 663, 664, 665, 666, 667, 668, 669, 670, 671, 672, 673, 674, 675, 676, 677, 678, 679, 680, 681, 682, 683, 684, 685, 686, 687, 688, 689, 690, 691, 692, 693, 694, 695, 696, 697, 698, 699, 700] (by decide +kernel) (by decide +kernel)
set_option maxRecDepth 20000 in
theorem gL_law_X8_read : GoodIn wsL_law (wsV RL 100 RX8 yX8_read wsX8_read) := goodIn_app (goodIn_of _ (by decide +kernel)) ggL_law_X8_read
set_option maxRecDepth 20000 in
theorem ggL_law_X7_wide : GoodIn wsL_law wsX7_wide := goodIn_r _ [586, 13, 162, 161, 125, 126, 2, 127, 564, 565, 566, 567, 152, 568, 569, 647, 648, 649, 650, 651, 652, 653, 654, 655, 712, 713, 714, 715, 716, 717, 718, 719, 720, 721, 722] (by decide +kernel) (by decide +kernel)
set_option maxRecDepth 20000 in
theorem gL_law_X7_wide : GoodIn wsL_law (wsV RL 101 RX7 yX7_wide wsX7_wide) := goodIn_app (goodIn_of _ (by decide +kernel)) ggL_law_X7_wide
set_option maxRecDepth 20000 in
theorem ggL_law_X8_wide : GoodIn wsL_law wsX8_wide := goodIn_r _ [590, 86, 83, 557, 558, 5, 559, 145, 146, 147, 579, 580, 581, 582, 85, 84, 82, 656, 657, 658, 659, 660, 661, 662, 663, 664, 665, 666, 667, 668, 669, 670, 671, 672, 673, 674, 675, 676, 677, 678, 679, 680, 681, 682, 683, 684, 685, 686, 687, 688, 689, 690, 691, 692, 693, 694, 695, 696, 697, 698, 699, 700] (by decide +kernel) (by decide +kernel)
set_option maxRecDepth 20000 in
theorem gL_law_X8_wide : GoodIn wsL_law (wsV RL 104 RX8 yX8_wide wsX8_wide) := goodIn_app (goodIn_of _ (by decide +kernel)) ggL_law_X8_wide
set_option maxRecDepth 20000 in
theorem ggL_law_X7_slow : GoodIn wsL_law wsX7_slow := goodIn_r _ [594, 29, 125, 126, 2, 127, 128, 129, 130, 595, 596, 597, 28, 598, 51, 599, 52, 342, 343, 647, 648, 649, 650, 651, 652, 653, 654, 655, 707, 708, 709, 710, 711] (by decide +kernel) (by decide +kernel)
set_option maxRecDepth 20000 in
theorem gL_law_X7_slow : GoodIn wsL_law (wsV RL 105 RX7 yX7_slow wsX7_slow) := goodIn_app (goodIn_of _ (by decide +kernel)) ggL_law_X7_slow
set_option maxRecDepth 20000 in
theorem ggL_law_X8_slow : GoodIn wsL_law wsX8_slow := goodIn_r _ [603, 120, 382, 437, 383, 384, 142, 143, 5, 144, 145, 146, 147, 656, 657, 658, 659, 660, 661, 662, 663, 664, 665, 666, 667, 668, 669, 670, 671, 672, 673, 674, 675, 676, 677, 678, 679, 680, 681, 682, 683, 684, 685, 686, 687, 688, 689, 690, 691, 692, 693, 694, 695, 696, 697, 698, 699, 700] (by decide +kernel) (by decide +kernel)
set_option maxRecDepth 20000 in
theorem gL_law_X8_slow : GoodIn wsL_law (wsV RL 109 RX8 yX8_slow wsX8_slow) := goodIn_app (goodIn_of _ (by decide +kernel)) ggL_law_X8_slow
set_option maxRecDepth 20000 in
theorem ggL_law_X7_crossed : GoodIn wsL_law wsX7_crossed := goodIn_r _ [607, 29, 608, 609, 610, 28, 611, 342, 343, 51, 599, 52, 647, 648, 649, 650, 651, 652, 653, 654, 655, 707, 708, 709, 710, 711] (by decide +kernel) (by decide +kernel)
set_option maxRecDepth 20000 in
theorem gL_law_X7_crossed : GoodIn wsL_law (wsV RL 110 RX7 yX7_crossed wsX7_crossed) := goodIn_app (goodIn_of _ (by decide +kernel)) ggL_law_X7_crossed
set_option maxRecDepth 20000 in
theorem ggL_law_X8_crossed : GoodIn wsL_law wsX8_crossed := goodIn_r _ [615, 383, 384, 120, 382, 437, 656, 657, 658, 659, 660, 661, 662, 663, 664, 665, 666, 667, 668, 669, 670, 671, 672, 673, 674, 675, 676, 677, 678, 679, 680, 681, 682, 683, 684, 685, 686, 687, 688, 689, 690, 691, 692, 693, 694, 695, 696, 697, 698, 699, 700] (by decide +kernel) (by decide +kernel)
set_option maxRecDepth 20000 in
theorem gL_law_X8_crossed : GoodIn wsL_law (wsV RL 113 RX8 yX8_crossed wsX8_crossed) := goodIn_app (goodIn_of _ (by decide +kernel)) ggL_law_X8_crossed
set_option maxRecDepth 20000 in
theorem ggL_law_X7_many : GoodIn wsL_law wsX7_many := goodIn_r _ [619, 267, 354, 25, 620, 621, 622, 623, 2, 624, 19, 625, 362, 363, 37, 364, 73, 326, 365, 325, 626, 627, 628, 629, 630, 631, 632, 633, 634, 635, 636, 17, 637, 638, 639, 640, 641, 13, 642, 647, 648, 649, 650, 651, 652, 653, 654, 655, 701, 702, 703, 704, 705, 706, 735, 736, 737, 738, 739, 740, 741, 742, 728, 729, 730, 731, 732, 733, 734, 712, 713, 714, 715, 716, 717, 718, 719, 720, 721, 722] (by decide +kernel) (by decide +kernel)
set_option maxRecDepth 20000 in
theorem gL_law_X7_many : GoodIn wsL_law (wsV RL 114 RX7 yX7_many wsX7_many) := goodIn_app (goodIn_of _ (by decide +kernel)) ggL_law_X7_many
set_option maxRecDepth 20000 in
theorem ggL_law_X8_many : GoodIn wsL_law wsX8_many := goodIn_r _ [646, 104, 89, 377, 452, 461, 453, 454, 455, 5, 456, 107, 109, 110, 111, 656, 657, 658, 659, 660, 661, 662, 663, 664, 665, 666, 667, 668, 669, 670, 671, 672, 673, 674, 675, 676, 677, 678, 679, 680, 681, 682, 683, 684, 685, 686, 687, 688, 689, 690, 691, 692, 693, 694, 695, 696, 697, 698, 699, 700] (by decide +kernel) (by decide +kernel)
set_option maxRecDepth 20000 in
theorem gL_law_X8_many : GoodIn wsL_law (wsV RL 117 RX8 yX8_many wsX8_many) := goodIn_app (goodIn_of _ (by decide +kernel)) ggL_law_X8_many
theorem dL_law_0 : decode cL_law 0 = .ok (.new 7, 3) := by decide +kernel
theorem dL_law_3 : decode cL_law 3 = .ok (.dup, 1) := by decide +kernel
theorem dL_law_4 : decode cL_law 4 = .ok (.invokespecial 9, 3) := by decide +kernel
theorem dL_law_7 : decode cL_law 7 = .ok (.astore_n 1, 1) := by decide +kernel
theorem dL_law_8 : decode cL_law 8 = .ok (.new 10, 3) := by decide +kernel
theorem dL_law_11 : decode cL_law 11 = .ok (.dup, 1) := by decide +kernel
theorem dL_law_12 : decode cL_law 12 = .ok (.invokespecial 12, 3) := by decide +kernel
theorem dL_law_15 : decode cL_law 15 = .ok (.astore_n 2, 1) := by decide +kernel
theorem dL_law_16 : decode cL_law 16 = .ok (.iconst 0, 1) := by decide +kernel
theorem dL_law_17 : decode cL_law 17 = .ok (.istore_n 3, 1) := by decide +kernel
theorem dL_law_18 : decode cL_law 18 = .ok (.iload_n 3, 1) := by decide +kernel
theorem dL_law_19 : decode cL_law 19 = .ok (.aload_n 0, 1) := by decide +kernel
theorem dL_law_20 : decode cL_law 20 = .ok (.arraylength, 1) := by decide +kernel
theorem dL_law_21 : decode cL_law 21 = .ok (.iconst 5, 1) := by decide +kernel
theorem dL_law_22 : decode cL_law 22 = .ok (.isub, 1) := by decide +kernel
theorem dL_law_23 : decode cL_law 23 = .ok (.if_icmp .gt 946, 3) := by decide +kernel
theorem dL_law_26 : decode cL_law 26 = .ok (.aload_n 0, 1) := by decide +kernel
theorem dL_law_27 : decode cL_law 27 = .ok (.iload_n 3, 1) := by decide +kernel
theorem dL_law_28 : decode cL_law 28 = .ok (.iaload, 1) := by decide +kernel
theorem dL_law_29 : decode cL_law 29 = .ok (.bipush 31, 2) := by decide +kernel
theorem dL_law_31 : decode cL_law 31 = .ok (.iand, 1) := by decide +kernel
theorem dL_law_32 : decode cL_law 32 = .ok (.tableswitch 931 0 24 #[116, 169, 202, 235, 268, 301, 334, 367, 400, 453, 476, 509, 532, 585, 638, 671, 694, 707, 720, 753, 786, 819, 842, 885, 908], 116) := by decide +kernel
theorem dL_law_148 : decode cL_law 148 = .ok (.aload_n 1, 1) := by decide +kernel
theorem dL_law_149 : decode cL_law 149 = .ok (.aload_n 0, 1) := by decide +kernel
theorem dL_law_150 : decode cL_law 150 = .ok (.iload_n 3, 1) := by decide +kernel
theorem dL_law_151 : decode cL_law 151 = .ok (.iconst 1, 1) := by decide +kernel
theorem dL_law_152 : decode cL_law 152 = .ok (.iadd, 1) := by decide +kernel
theorem dL_law_153 : decode cL_law 153 = .ok (.iaload, 1) := by decide +kernel
theorem dL_law_154 : decode cL_law 154 = .ok (.aload_n 0, 1) := by decide +kernel
theorem dL_law_155 : decode cL_law 155 = .ok (.iload_n 3, 1) := by decide +kernel
theorem dL_law_156 : decode cL_law 156 = .ok (.iconst 2, 1) := by decide +kernel
theorem dL_law_157 : decode cL_law 157 = .ok (.iadd, 1) := by decide +kernel
theorem dL_law_158 : decode cL_law 158 = .ok (.iaload, 1) := by decide +kernel
theorem dL_law_159 : decode cL_law 159 = .ok (.aload_n 0, 1) := by decide +kernel
theorem dL_law_160 : decode cL_law 160 = .ok (.iload_n 3, 1) := by decide +kernel
theorem dL_law_161 : decode cL_law 161 = .ok (.iconst 3, 1) := by decide +kernel
theorem dL_law_162 : decode cL_law 162 = .ok (.iadd, 1) := by decide +kernel
theorem dL_law_163 : decode cL_law 163 = .ok (.iaload, 1) := by decide +kernel
theorem dL_law_164 : decode cL_law 164 = .ok (.aload_n 0, 1) := by decide +kernel
theorem dL_law_165 : decode cL_law 165 = .ok (.iload_n 3, 1) := by decide +kernel
theorem dL_law_166 : decode cL_law 166 = .ok (.iconst 4, 1) := by decide +kernel
theorem dL_law_167 : decode cL_law 167 = .ok (.iadd, 1) := by decide +kernel
theorem dL_law_168 : decode cL_law 168 = .ok (.iaload, 1) := by decide +kernel
theorem dL_law_169 : decode cL_law 169 = .ok (.invokevirtual 13, 3) := by decide +kernel
theorem dL_law_172 : decode cL_law 172 = .ok (.aload_n 2, 1) := by decide +kernel
theorem dL_law_173 : decode cL_law 173 = .ok (.aload_n 0, 1) := by decide +kernel
theorem dL_law_174 : decode cL_law 174 = .ok (.iload_n 3, 1) := by decide +kernel
theorem dL_law_175 : decode cL_law 175 = .ok (.iconst 1, 1) := by decide +kernel
theorem dL_law_176 : decode cL_law 176 = .ok (.iadd, 1) := by decide +kernel
theorem dL_law_177 : decode cL_law 177 = .ok (.iaload, 1) := by decide +kernel
theorem dL_law_178 : decode cL_law 178 = .ok (.aload_n 0, 1) := by decide +kernel
theorem dL_law_179 : decode cL_law 179 = .ok (.iload_n 3, 1) := by decide +kernel
theorem dL_law_180 : decode cL_law 180 = .ok (.iconst 2, 1) := by decide +kernel
theorem dL_law_181 : decode cL_law 181 = .ok (.iadd, 1) := by decide +kernel
theorem dL_law_182 : decode cL_law 182 = .ok (.iaload, 1) := by decide +kernel
theorem dL_law_183 : decode cL_law 183 = .ok (.aload_n 0, 1) := by decide +kernel
theorem dL_law_184 : decode cL_law 184 = .ok (.iload_n 3, 1) := by decide +kernel
theorem dL_law_185 : decode cL_law 185 = .ok (.iconst 3, 1) := by decide +kernel
theorem dL_law_186 : decode cL_law 186 = .ok (.iadd, 1) := by decide +kernel
theorem dL_law_187 : decode cL_law 187 = .ok (.iaload, 1) := by decide +kernel
theorem dL_law_188 : decode cL_law 188 = .ok (.aload_n 0, 1) := by decide +kernel
theorem dL_law_189 : decode cL_law 189 = .ok (.iload_n 3, 1) := by decide +kernel
theorem dL_law_190 : decode cL_law 190 = .ok (.iconst 4, 1) := by decide +kernel
theorem dL_law_191 : decode cL_law 191 = .ok (.iadd, 1) := by decide +kernel
theorem dL_law_192 : decode cL_law 192 = .ok (.iaload, 1) := by decide +kernel
theorem dL_law_193 : decode cL_law 193 = .ok (.invokevirtual 17, 3) := by decide +kernel
theorem dL_law_196 : decode cL_law 196 = .ok (.if_icmp .eq 767, 3) := by decide +kernel
theorem dL_law_199 : decode cL_law 199 = .ok (.iconst 0, 1) := by decide +kernel
theorem dL_law_200 : decode cL_law 200 = .ok (.ireturn, 1) := by decide +kernel
theorem dL_law_201 : decode cL_law 201 = .ok (.aload_n 1, 1) := by decide +kernel
theorem dL_law_202 : decode cL_law 202 = .ok (.aload_n 0, 1) := by decide +kernel
theorem dL_law_203 : decode cL_law 203 = .ok (.iload_n 3, 1) := by decide +kernel
theorem dL_law_204 : decode cL_law 204 = .ok (.iconst 1, 1) := by decide +kernel
theorem dL_law_205 : decode cL_law 205 = .ok (.iadd, 1) := by decide +kernel
theorem dL_law_206 : decode cL_law 206 = .ok (.iaload, 1) := by decide +kernel
theorem dL_law_207 : decode cL_law 207 = .ok (.aload_n 0, 1) := by decide +kernel
theorem dL_law_208 : decode cL_law 208 = .ok (.iload_n 3, 1) := by decide +kernel
theorem dL_law_209 : decode cL_law 209 = .ok (.iconst 2, 1) := by decide +kernel
theorem dL_law_210 : decode cL_law 210 = .ok (.iadd, 1) := by decide +kernel
theorem dL_law_211 : decode cL_law 211 = .ok (.iaload, 1) := by decide +kernel
theorem dL_law_212 : decode cL_law 212 = .ok (.invokevirtual 18, 3) := by decide +kernel
theorem dL_law_215 : decode cL_law 215 = .ok (.aload_n 2, 1) := by decide +kernel
theorem dL_law_216 : decode cL_law 216 = .ok (.aload_n 0, 1) := by decide +kernel
theorem dL_law_217 : decode cL_law 217 = .ok (.iload_n 3, 1) := by decide +kernel
theorem dL_law_218 : decode cL_law 218 = .ok (.iconst 1, 1) := by decide +kernel
theorem dL_law_219 : decode cL_law 219 = .ok (.iadd, 1) := by decide +kernel
theorem dL_law_220 : decode cL_law 220 = .ok (.iaload, 1) := by decide +kernel
theorem dL_law_221 : decode cL_law 221 = .ok (.aload_n 0, 1) := by decide +kernel
theorem dL_law_222 : decode cL_law 222 = .ok (.iload_n 3, 1) := by decide +kernel
theorem dL_law_223 : decode cL_law 223 = .ok (.iconst 2, 1) := by decide +kernel
theorem dL_law_224 : decode cL_law 224 = .ok (.iadd, 1) := by decide +kernel
theorem dL_law_225 : decode cL_law 225 = .ok (.iaload, 1) := by decide +kernel
theorem dL_law_226 : decode cL_law 226 = .ok (.invokevirtual 22, 3) := by decide +kernel
theorem dL_law_229 : decode cL_law 229 = .ok (.if_icmp .eq 734, 3) := by decide +kernel
theorem dL_law_232 : decode cL_law 232 = .ok (.iconst 0, 1) := by decide +kernel
theorem dL_law_233 : decode cL_law 233 = .ok (.ireturn, 1) := by decide +kernel
theorem dL_law_234 : decode cL_law 234 = .ok (.aload_n 1, 1) := by decide +kernel
theorem dL_law_235 : decode cL_law 235 = .ok (.aload_n 0, 1) := by decide +kernel
theorem dL_law_236 : decode cL_law 236 = .ok (.iload_n 3, 1) := by decide +kernel
theorem dL_law_237 : decode cL_law 237 = .ok (.iconst 1, 1) := by decide +kernel
theorem dL_law_238 : decode cL_law 238 = .ok (.iadd, 1) := by decide +kernel
theorem dL_law_239 : decode cL_law 239 = .ok (.iaload, 1) := by decide +kernel
theorem dL_law_240 : decode cL_law 240 = .ok (.aload_n 0, 1) := by decide +kernel
theorem dL_law_241 : decode cL_law 241 = .ok (.iload_n 3, 1) := by decide +kernel
theorem dL_law_242 : decode cL_law 242 = .ok (.iconst 2, 1) := by decide +kernel
theorem dL_law_243 : decode cL_law 243 = .ok (.iadd, 1) := by decide +kernel
theorem dL_law_244 : decode cL_law 244 = .ok (.iaload, 1) := by decide +kernel
theorem dL_law_245 : decode cL_law 245 = .ok (.invokevirtual 23, 3) := by decide +kernel
theorem dL_law_248 : decode cL_law 248 = .ok (.aload_n 2, 1) := by decide +kernel
theorem dL_law_249 : decode cL_law 249 = .ok (.aload_n 0, 1) := by decide +kernel
theorem dL_law_250 : decode cL_law 250 = .ok (.iload_n 3, 1) := by decide +kernel
theorem dL_law_251 : decode cL_law 251 = .ok (.iconst 1, 1) := by decide +kernel
theorem dL_law_252 : decode cL_law 252 = .ok (.iadd, 1) := by decide +kernel
theorem dL_law_253 : decode cL_law 253 = .ok (.iaload, 1) := by decide +kernel
theorem dL_law_254 : decode cL_law 254 = .ok (.aload_n 0, 1) := by decide +kernel
theorem dL_law_255 : decode cL_law 255 = .ok (.iload_n 3, 1) := by decide +kernel
theorem dL_law_256 : decode cL_law 256 = .ok (.iconst 2, 1) := by decide +kernel
theorem dL_law_257 : decode cL_law 257 = .ok (.iadd, 1) := by decide +kernel
theorem dL_law_258 : decode cL_law 258 = .ok (.iaload, 1) := by decide +kernel
theorem dL_law_259 : decode cL_law 259 = .ok (.invokevirtual 26, 3) := by decide +kernel
theorem dL_law_262 : decode cL_law 262 = .ok (.if_icmp .eq 701, 3) := by decide +kernel
theorem dL_law_265 : decode cL_law 265 = .ok (.iconst 0, 1) := by decide +kernel
theorem dL_law_266 : decode cL_law 266 = .ok (.ireturn, 1) := by decide +kernel
theorem dL_law_267 : decode cL_law 267 = .ok (.aload_n 1, 1) := by decide +kernel
theorem dL_law_268 : decode cL_law 268 = .ok (.aload_n 0, 1) := by decide +kernel
theorem dL_law_269 : decode cL_law 269 = .ok (.iload_n 3, 1) := by decide +kernel
theorem dL_law_270 : decode cL_law 270 = .ok (.iconst 1, 1) := by decide +kernel
theorem dL_law_271 : decode cL_law 271 = .ok (.iadd, 1) := by decide +kernel
theorem dL_law_272 : decode cL_law 272 = .ok (.iaload, 1) := by decide +kernel
theorem dL_law_273 : decode cL_law 273 = .ok (.aload_n 0, 1) := by decide +kernel
theorem dL_law_274 : decode cL_law 274 = .ok (.iload_n 3, 1) := by decide +kernel
theorem dL_law_275 : decode cL_law 275 = .ok (.iconst 2, 1) := by decide +kernel
theorem dL_law_276 : decode cL_law 276 = .ok (.iadd, 1) := by decide +kernel
theorem dL_law_277 : decode cL_law 277 = .ok (.iaload, 1) := by decide +kernel
theorem dL_law_278 : decode cL_law 278 = .ok (.invokevirtual 27, 3) := by decide +kernel
theorem dL_law_281 : decode cL_law 281 = .ok (.aload_n 2, 1) := by decide +kernel
theorem dL_law_282 : decode cL_law 282 = .ok (.aload_n 0, 1) := by decide +kernel
theorem dL_law_283 : decode cL_law 283 = .ok (.iload_n 3, 1) := by decide +kernel
theorem dL_law_284 : decode cL_law 284 = .ok (.iconst 1, 1) := by decide +kernel
theorem dL_law_285 : decode cL_law 285 = .ok (.iadd, 1) := by decide +kernel
theorem dL_law_286 : decode cL_law 286 = .ok (.iaload, 1) := by decide +kernel
theorem dL_law_287 : decode cL_law 287 = .ok (.aload_n 0, 1) := by decide +kernel
theorem dL_law_288 : decode cL_law 288 = .ok (.iload_n 3, 1) := by decide +kernel
theorem dL_law_289 : decode cL_law 289 = .ok (.iconst 2, 1) := by decide +kernel
theorem dL_law_290 : decode cL_law 290 = .ok (.iadd, 1) := by decide +kernel
theorem dL_law_291 : decode cL_law 291 = .ok (.iaload, 1) := by decide +kernel
theorem dL_law_292 : decode cL_law 292 = .ok (.invokevirtual 30, 3) := by decide +kernel
theorem dL_law_295 : decode cL_law 295 = .ok (.if_icmp .eq 668, 3) := by decide +kernel
theorem dL_law_298 : decode cL_law 298 = .ok (.iconst 0, 1) := by decide +kernel
theorem dL_law_299 : decode cL_law 299 = .ok (.ireturn, 1) := by decide +kernel
theorem dL_law_300 : decode cL_law 300 = .ok (.aload_n 1, 1) := by decide +kernel
theorem dL_law_301 : decode cL_law 301 = .ok (.aload_n 0, 1) := by decide +kernel
theorem dL_law_302 : decode cL_law 302 = .ok (.iload_n 3, 1) := by decide +kernel
theorem dL_law_303 : decode cL_law 303 = .ok (.iconst 1, 1) := by decide +kernel
theorem dL_law_304 : decode cL_law 304 = .ok (.iadd, 1) := by decide +kernel
theorem dL_law_305 : decode cL_law 305 = .ok (.iaload, 1) := by decide +kernel
theorem dL_law_306 : decode cL_law 306 = .ok (.aload_n 0, 1) := by decide +kernel
theorem dL_law_307 : decode cL_law 307 = .ok (.iload_n 3, 1) := by decide +kernel
theorem dL_law_308 : decode cL_law 308 = .ok (.iconst 2, 1) := by decide +kernel
theorem dL_law_309 : decode cL_law 309 = .ok (.iadd, 1) := by decide +kernel
theorem dL_law_310 : decode cL_law 310 = .ok (.iaload, 1) := by decide +kernel
theorem dL_law_311 : decode cL_law 311 = .ok (.invokevirtual 31, 3) := by decide +kernel
theorem dL_law_314 : decode cL_law 314 = .ok (.aload_n 2, 1) := by decide +kernel
theorem dL_law_315 : decode cL_law 315 = .ok (.aload_n 0, 1) := by decide +kernel
theorem dL_law_316 : decode cL_law 316 = .ok (.iload_n 3, 1) := by decide +kernel
theorem dL_law_317 : decode cL_law 317 = .ok (.iconst 1, 1) := by decide +kernel
theorem dL_law_318 : decode cL_law 318 = .ok (.iadd, 1) := by decide +kernel
theorem dL_law_319 : decode cL_law 319 = .ok (.iaload, 1) := by decide +kernel
theorem dL_law_320 : decode cL_law 320 = .ok (.aload_n 0, 1) := by decide +kernel
theorem dL_law_321 : decode cL_law 321 = .ok (.iload_n 3, 1) := by decide +kernel
theorem dL_law_322 : decode cL_law 322 = .ok (.iconst 2, 1) := by decide +kernel
theorem dL_law_323 : decode cL_law 323 = .ok (.iadd, 1) := by decide +kernel
theorem dL_law_324 : decode cL_law 324 = .ok (.iaload, 1) := by decide +kernel
theorem dL_law_325 : decode cL_law 325 = .ok (.invokevirtual 34, 3) := by decide +kernel
theorem dL_law_328 : decode cL_law 328 = .ok (.if_icmp .eq 635, 3) := by decide +kernel
theorem dL_law_331 : decode cL_law 331 = .ok (.iconst 0, 1) := by decide +kernel
theorem dL_law_332 : decode cL_law 332 = .ok (.ireturn, 1) := by decide +kernel
theorem dL_law_333 : decode cL_law 333 = .ok (.aload_n 1, 1) := by decide +kernel
theorem dL_law_334 : decode cL_law 334 = .ok (.aload_n 0, 1) := by decide +kernel
theorem dL_law_335 : decode cL_law 335 = .ok (.iload_n 3, 1) := by decide +kernel
theorem dL_law_336 : decode cL_law 336 = .ok (.iconst 1, 1) := by decide +kernel
theorem dL_law_337 : decode cL_law 337 = .ok (.iadd, 1) := by decide +kernel
theorem dL_law_338 : decode cL_law 338 = .ok (.iaload, 1) := by decide +kernel
theorem dL_law_339 : decode cL_law 339 = .ok (.aload_n 0, 1) := by decide +kernel
theorem dL_law_340 : decode cL_law 340 = .ok (.iload_n 3, 1) := by decide +kernel
theorem dL_law_341 : decode cL_law 341 = .ok (.iconst 2, 1) := by decide +kernel
theorem dL_law_342 : decode cL_law 342 = .ok (.iadd, 1) := by decide +kernel
theorem dL_law_343 : decode cL_law 343 = .ok (.iaload, 1) := by decide +kernel
theorem dL_law_344 : decode cL_law 344 = .ok (.invokevirtual 35, 3) := by decide +kernel
theorem dL_law_347 : decode cL_law 347 = .ok (.aload_n 2, 1) := by decide +kernel
theorem dL_law_348 : decode cL_law 348 = .ok (.aload_n 0, 1) := by decide +kernel
theorem dL_law_349 : decode cL_law 349 = .ok (.iload_n 3, 1) := by decide +kernel
theorem dL_law_350 : decode cL_law 350 = .ok (.iconst 1, 1) := by decide +kernel
theorem dL_law_351 : decode cL_law 351 = .ok (.iadd, 1) := by decide +kernel
theorem dL_law_352 : decode cL_law 352 = .ok (.iaload, 1) := by decide +kernel
theorem dL_law_353 : decode cL_law 353 = .ok (.aload_n 0, 1) := by decide +kernel
theorem dL_law_354 : decode cL_law 354 = .ok (.iload_n 3, 1) := by decide +kernel
theorem dL_law_355 : decode cL_law 355 = .ok (.iconst 2, 1) := by decide +kernel
theorem dL_law_356 : decode cL_law 356 = .ok (.iadd, 1) := by decide +kernel
theorem dL_law_357 : decode cL_law 357 = .ok (.iaload, 1) := by decide +kernel
theorem dL_law_358 : decode cL_law 358 = .ok (.invokevirtual 38, 3) := by decide +kernel
theorem dL_law_361 : decode cL_law 361 = .ok (.if_icmp .eq 602, 3) := by decide +kernel
theorem dL_law_364 : decode cL_law 364 = .ok (.iconst 0, 1) := by decide +kernel
theorem dL_law_365 : decode cL_law 365 = .ok (.ireturn, 1) := by decide +kernel
theorem dL_law_366 : decode cL_law 366 = .ok (.aload_n 1, 1) := by decide +kernel
theorem dL_law_367 : decode cL_law 367 = .ok (.aload_n 0, 1) := by decide +kernel
theorem dL_law_368 : decode cL_law 368 = .ok (.iload_n 3, 1) := by decide +kernel
theorem dL_law_369 : decode cL_law 369 = .ok (.iconst 1, 1) := by decide +kernel
theorem dL_law_370 : decode cL_law 370 = .ok (.iadd, 1) := by decide +kernel
theorem dL_law_371 : decode cL_law 371 = .ok (.iaload, 1) := by decide +kernel
theorem dL_law_372 : decode cL_law 372 = .ok (.aload_n 0, 1) := by decide +kernel
theorem dL_law_373 : decode cL_law 373 = .ok (.iload_n 3, 1) := by decide +kernel
theorem dL_law_374 : decode cL_law 374 = .ok (.iconst 2, 1) := by decide +kernel
theorem dL_law_375 : decode cL_law 375 = .ok (.iadd, 1) := by decide +kernel
theorem dL_law_376 : decode cL_law 376 = .ok (.iaload, 1) := by decide +kernel
theorem dL_law_377 : decode cL_law 377 = .ok (.invokevirtual 39, 3) := by decide +kernel
theorem dL_law_380 : decode cL_law 380 = .ok (.aload_n 2, 1) := by decide +kernel
theorem dL_law_381 : decode cL_law 381 = .ok (.aload_n 0, 1) := by decide +kernel
theorem dL_law_382 : decode cL_law 382 = .ok (.iload_n 3, 1) := by decide +kernel
theorem dL_law_383 : decode cL_law 383 = .ok (.iconst 1, 1) := by decide +kernel
theorem dL_law_384 : decode cL_law 384 = .ok (.iadd, 1) := by decide +kernel
theorem dL_law_385 : decode cL_law 385 = .ok (.iaload, 1) := by decide +kernel
theorem dL_law_386 : decode cL_law 386 = .ok (.aload_n 0, 1) := by decide +kernel
theorem dL_law_387 : decode cL_law 387 = .ok (.iload_n 3, 1) := by decide +kernel
theorem dL_law_388 : decode cL_law 388 = .ok (.iconst 2, 1) := by decide +kernel
theorem dL_law_389 : decode cL_law 389 = .ok (.iadd, 1) := by decide +kernel
theorem dL_law_390 : decode cL_law 390 = .ok (.iaload, 1) := by decide +kernel
theorem dL_law_391 : decode cL_law 391 = .ok (.invokevirtual 42, 3) := by decide +kernel
theorem dL_law_394 : decode cL_law 394 = .ok (.if_icmp .eq 569, 3) := by decide +kernel
theorem dL_law_397 : decode cL_law 397 = .ok (.iconst 0, 1) := by decide +kernel
theorem dL_law_398 : decode cL_law 398 = .ok (.ireturn, 1) := by decide +kernel
theorem dL_law_399 : decode cL_law 399 = .ok (.aload_n 1, 1) := by decide +kernel
theorem dL_law_400 : decode cL_law 400 = .ok (.aload_n 0, 1) := by decide +kernel
theorem dL_law_401 : decode cL_law 401 = .ok (.iload_n 3, 1) := by decide +kernel
theorem dL_law_402 : decode cL_law 402 = .ok (.iconst 1, 1) := by decide +kernel
theorem dL_law_403 : decode cL_law 403 = .ok (.iadd, 1) := by decide +kernel
theorem dL_law_404 : decode cL_law 404 = .ok (.iaload, 1) := by decide +kernel
theorem dL_law_405 : decode cL_law 405 = .ok (.aload_n 0, 1) := by decide +kernel
theorem dL_law_406 : decode cL_law 406 = .ok (.iload_n 3, 1) := by decide +kernel
theorem dL_law_407 : decode cL_law 407 = .ok (.iconst 2, 1) := by decide +kernel
theorem dL_law_408 : decode cL_law 408 = .ok (.iadd, 1) := by decide +kernel
theorem dL_law_409 : decode cL_law 409 = .ok (.iaload, 1) := by decide +kernel
theorem dL_law_410 : decode cL_law 410 = .ok (.invokevirtual 43, 3) := by decide +kernel
theorem dL_law_413 : decode cL_law 413 = .ok (.aload_n 2, 1) := by decide +kernel
theorem dL_law_414 : decode cL_law 414 = .ok (.aload_n 0, 1) := by decide +kernel
theorem dL_law_415 : decode cL_law 415 = .ok (.iload_n 3, 1) := by decide +kernel
theorem dL_law_416 : decode cL_law 416 = .ok (.iconst 1, 1) := by decide +kernel
theorem dL_law_417 : decode cL_law 417 = .ok (.iadd, 1) := by decide +kernel
theorem dL_law_418 : decode cL_law 418 = .ok (.iaload, 1) := by decide +kernel
theorem dL_law_419 : decode cL_law 419 = .ok (.aload_n 0, 1) := by decide +kernel
theorem dL_law_420 : decode cL_law 420 = .ok (.iload_n 3, 1) := by decide +kernel
theorem dL_law_421 : decode cL_law 421 = .ok (.iconst 2, 1) := by decide +kernel
theorem dL_law_422 : decode cL_law 422 = .ok (.iadd, 1) := by decide +kernel
theorem dL_law_423 : decode cL_law 423 = .ok (.iaload, 1) := by decide +kernel
theorem dL_law_424 : decode cL_law 424 = .ok (.invokevirtual 46, 3) := by decide +kernel
theorem dL_law_427 : decode cL_law 427 = .ok (.if_icmp .eq 536, 3) := by decide +kernel
theorem dL_law_430 : decode cL_law 430 = .ok (.iconst 0, 1) := by decide +kernel
theorem dL_law_431 : decode cL_law 431 = .ok (.ireturn, 1) := by decide +kernel
theorem dL_law_432 : decode cL_law 432 = .ok (.aload_n 1, 1) := by decide +kernel
theorem dL_law_433 : decode cL_law 433 = .ok (.aload_n 0, 1) := by decide +kernel
theorem dL_law_434 : decode cL_law 434 = .ok (.iload_n 3, 1) := by decide +kernel
theorem dL_law_435 : decode cL_law 435 = .ok (.iconst 1, 1) := by decide +kernel
theorem dL_law_436 : decode cL_law 436 = .ok (.iadd, 1) := by decide +kernel
theorem dL_law_437 : decode cL_law 437 = .ok (.iaload, 1) := by decide +kernel
theorem dL_law_438 : decode cL_law 438 = .ok (.aload_n 0, 1) := by decide +kernel
theorem dL_law_439 : decode cL_law 439 = .ok (.iload_n 3, 1) := by decide +kernel
theorem dL_law_440 : decode cL_law 440 = .ok (.iconst 2, 1) := by decide +kernel
theorem dL_law_441 : decode cL_law 441 = .ok (.iadd, 1) := by decide +kernel
theorem dL_law_442 : decode cL_law 442 = .ok (.iaload, 1) := by decide +kernel
theorem dL_law_443 : decode cL_law 443 = .ok (.aload_n 0, 1) := by decide +kernel
theorem dL_law_444 : decode cL_law 444 = .ok (.iload_n 3, 1) := by decide +kernel
theorem dL_law_445 : decode cL_law 445 = .ok (.iconst 3, 1) := by decide +kernel
theorem dL_law_446 : decode cL_law 446 = .ok (.iadd, 1) := by decide +kernel
theorem dL_law_447 : decode cL_law 447 = .ok (.iaload, 1) := by decide +kernel
theorem dL_law_448 : decode cL_law 448 = .ok (.aload_n 0, 1) := by decide +kernel
theorem dL_law_449 : decode cL_law 449 = .ok (.iload_n 3, 1) := by decide +kernel
theorem dL_law_450 : decode cL_law 450 = .ok (.iconst 4, 1) := by decide +kernel
theorem dL_law_451 : decode cL_law 451 = .ok (.iadd, 1) := by decide +kernel
theorem dL_law_452 : decode cL_law 452 = .ok (.iaload, 1) := by decide +kernel
theorem dL_law_453 : decode cL_law 453 = .ok (.invokevirtual 47, 3) := by decide +kernel
theorem dL_law_456 : decode cL_law 456 = .ok (.aload_n 2, 1) := by decide +kernel
theorem dL_law_457 : decode cL_law 457 = .ok (.aload_n 0, 1) := by decide +kernel
theorem dL_law_458 : decode cL_law 458 = .ok (.iload_n 3, 1) := by decide +kernel
theorem dL_law_459 : decode cL_law 459 = .ok (.iconst 1, 1) := by decide +kernel
theorem dL_law_460 : decode cL_law 460 = .ok (.iadd, 1) := by decide +kernel
theorem dL_law_461 : decode cL_law 461 = .ok (.iaload, 1) := by decide +kernel
theorem dL_law_462 : decode cL_law 462 = .ok (.aload_n 0, 1) := by decide +kernel
theorem dL_law_463 : decode cL_law 463 = .ok (.iload_n 3, 1) := by decide +kernel
theorem dL_law_464 : decode cL_law 464 = .ok (.iconst 2, 1) := by decide +kernel
theorem dL_law_465 : decode cL_law 465 = .ok (.iadd, 1) := by decide +kernel
theorem dL_law_466 : decode cL_law 466 = .ok (.iaload, 1) := by decide +kernel
theorem dL_law_467 : decode cL_law 467 = .ok (.aload_n 0, 1) := by decide +kernel
theorem dL_law_468 : decode cL_law 468 = .ok (.iload_n 3, 1) := by decide +kernel
theorem dL_law_469 : decode cL_law 469 = .ok (.iconst 3, 1) := by decide +kernel
theorem dL_law_470 : decode cL_law 470 = .ok (.iadd, 1) := by decide +kernel
theorem dL_law_471 : decode cL_law 471 = .ok (.iaload, 1) := by decide +kernel
theorem dL_law_472 : decode cL_law 472 = .ok (.aload_n 0, 1) := by decide +kernel
theorem dL_law_473 : decode cL_law 473 = .ok (.iload_n 3, 1) := by decide +kernel
theorem dL_law_474 : decode cL_law 474 = .ok (.iconst 4, 1) := by decide +kernel
theorem dL_law_475 : decode cL_law 475 = .ok (.iadd, 1) := by decide +kernel
theorem dL_law_476 : decode cL_law 476 = .ok (.iaload, 1) := by decide +kernel
theorem dL_law_477 : decode cL_law 477 = .ok (.invokevirtual 50, 3) := by decide +kernel
theorem dL_law_480 : decode cL_law 480 = .ok (.if_icmp .eq 483, 3) := by decide +kernel
theorem dL_law_483 : decode cL_law 483 = .ok (.iconst 0, 1) := by decide +kernel
theorem dL_law_484 : decode cL_law 484 = .ok (.ireturn, 1) := by decide +kernel
theorem dL_law_485 : decode cL_law 485 = .ok (.aload_n 1, 1) := by decide +kernel
theorem dL_law_486 : decode cL_law 486 = .ok (.aload_n 0, 1) := by decide +kernel
theorem dL_law_487 : decode cL_law 487 = .ok (.iload_n 3, 1) := by decide +kernel
theorem dL_law_488 : decode cL_law 488 = .ok (.iconst 1, 1) := by decide +kernel
theorem dL_law_489 : decode cL_law 489 = .ok (.iadd, 1) := by decide +kernel
theorem dL_law_490 : decode cL_law 490 = .ok (.iaload, 1) := by decide +kernel
theorem dL_law_491 : decode cL_law 491 = .ok (.invokevirtual 51, 3) := by decide +kernel
theorem dL_law_494 : decode cL_law 494 = .ok (.aload_n 2, 1) := by decide +kernel
theorem dL_law_495 : decode cL_law 495 = .ok (.aload_n 0, 1) := by decide +kernel
theorem dL_law_496 : decode cL_law 496 = .ok (.iload_n 3, 1) := by decide +kernel
theorem dL_law_497 : decode cL_law 497 = .ok (.iconst 1, 1) := by decide +kernel
theorem dL_law_498 : decode cL_law 498 = .ok (.iadd, 1) := by decide +kernel
theorem dL_law_499 : decode cL_law 499 = .ok (.iaload, 1) := by decide +kernel
theorem dL_law_500 : decode cL_law 500 = .ok (.invokevirtual 55, 3) := by decide +kernel
theorem dL_law_503 : decode cL_law 503 = .ok (.if_icmp .eq 460, 3) := by decide +kernel
theorem dL_law_506 : decode cL_law 506 = .ok (.iconst 0, 1) := by decide +kernel
theorem dL_law_507 : decode cL_law 507 = .ok (.ireturn, 1) := by decide +kernel
theorem dL_law_508 : decode cL_law 508 = .ok (.aload_n 1, 1) := by decide +kernel
theorem dL_law_509 : decode cL_law 509 = .ok (.aload_n 0, 1) := by decide +kernel
theorem dL_law_510 : decode cL_law 510 = .ok (.iload_n 3, 1) := by decide +kernel
theorem dL_law_511 : decode cL_law 511 = .ok (.iconst 1, 1) := by decide +kernel
theorem dL_law_512 : decode cL_law 512 = .ok (.iadd, 1) := by decide +kernel
theorem dL_law_513 : decode cL_law 513 = .ok (.iaload, 1) := by decide +kernel
theorem dL_law_514 : decode cL_law 514 = .ok (.aload_n 0, 1) := by decide +kernel
theorem dL_law_515 : decode cL_law 515 = .ok (.iload_n 3, 1) := by decide +kernel
theorem dL_law_516 : decode cL_law 516 = .ok (.iconst 2, 1) := by decide +kernel
theorem dL_law_517 : decode cL_law 517 = .ok (.iadd, 1) := by decide +kernel
theorem dL_law_518 : decode cL_law 518 = .ok (.iaload, 1) := by decide +kernel
theorem dL_law_519 : decode cL_law 519 = .ok (.invokevirtual 56, 3) := by decide +kernel
theorem dL_law_522 : decode cL_law 522 = .ok (.aload_n 2, 1) := by decide +kernel
theorem dL_law_523 : decode cL_law 523 = .ok (.aload_n 0, 1) := by decide +kernel
theorem dL_law_524 : decode cL_law 524 = .ok (.iload_n 3, 1) := by decide +kernel
theorem dL_law_525 : decode cL_law 525 = .ok (.iconst 1, 1) := by decide +kernel
theorem dL_law_526 : decode cL_law 526 = .ok (.iadd, 1) := by decide +kernel
theorem dL_law_527 : decode cL_law 527 = .ok (.iaload, 1) := by decide +kernel
theorem dL_law_528 : decode cL_law 528 = .ok (.aload_n 0, 1) := by decide +kernel
theorem dL_law_529 : decode cL_law 529 = .ok (.iload_n 3, 1) := by decide +kernel
theorem dL_law_530 : decode cL_law 530 = .ok (.iconst 2, 1) := by decide +kernel
theorem dL_law_531 : decode cL_law 531 = .ok (.iadd, 1) := by decide +kernel
theorem dL_law_532 : decode cL_law 532 = .ok (.iaload, 1) := by decide +kernel
theorem dL_law_533 : decode cL_law 533 = .ok (.invokevirtual 59, 3) := by decide +kernel
theorem dL_law_536 : decode cL_law 536 = .ok (.if_icmp .eq 427, 3) := by decide +kernel
theorem dL_law_539 : decode cL_law 539 = .ok (.iconst 0, 1) := by decide +kernel
theorem dL_law_540 : decode cL_law 540 = .ok (.ireturn, 1) := by decide +kernel
theorem dL_law_541 : decode cL_law 541 = .ok (.aload_n 1, 1) := by decide +kernel
theorem dL_law_542 : decode cL_law 542 = .ok (.aload_n 0, 1) := by decide +kernel
theorem dL_law_543 : decode cL_law 543 = .ok (.iload_n 3, 1) := by decide +kernel
theorem dL_law_544 : decode cL_law 544 = .ok (.iconst 1, 1) := by decide +kernel
theorem dL_law_545 : decode cL_law 545 = .ok (.iadd, 1) := by decide +kernel
theorem dL_law_546 : decode cL_law 546 = .ok (.iaload, 1) := by decide +kernel
theorem dL_law_547 : decode cL_law 547 = .ok (.invokevirtual 60, 3) := by decide +kernel
theorem dL_law_550 : decode cL_law 550 = .ok (.aload_n 2, 1) := by decide +kernel
theorem dL_law_551 : decode cL_law 551 = .ok (.aload_n 0, 1) := by decide +kernel
theorem dL_law_552 : decode cL_law 552 = .ok (.iload_n 3, 1) := by decide +kernel
theorem dL_law_553 : decode cL_law 553 = .ok (.iconst 1, 1) := by decide +kernel
theorem dL_law_554 : decode cL_law 554 = .ok (.iadd, 1) := by decide +kernel
theorem dL_law_555 : decode cL_law 555 = .ok (.iaload, 1) := by decide +kernel
theorem dL_law_556 : decode cL_law 556 = .ok (.invokevirtual 63, 3) := by decide +kernel
theorem dL_law_559 : decode cL_law 559 = .ok (.if_icmp .eq 404, 3) := by decide +kernel
theorem dL_law_562 : decode cL_law 562 = .ok (.iconst 0, 1) := by decide +kernel
theorem dL_law_563 : decode cL_law 563 = .ok (.ireturn, 1) := by decide +kernel
theorem dL_law_564 : decode cL_law 564 = .ok (.aload_n 1, 1) := by decide +kernel
theorem dL_law_565 : decode cL_law 565 = .ok (.aload_n 0, 1) := by decide +kernel
theorem dL_law_566 : decode cL_law 566 = .ok (.iload_n 3, 1) := by decide +kernel
theorem dL_law_567 : decode cL_law 567 = .ok (.iconst 1, 1) := by decide +kernel
theorem dL_law_568 : decode cL_law 568 = .ok (.iadd, 1) := by decide +kernel
theorem dL_law_569 : decode cL_law 569 = .ok (.iaload, 1) := by decide +kernel
theorem dL_law_570 : decode cL_law 570 = .ok (.aload_n 0, 1) := by decide +kernel
theorem dL_law_571 : decode cL_law 571 = .ok (.iload_n 3, 1) := by decide +kernel
theorem dL_law_572 : decode cL_law 572 = .ok (.iconst 2, 1) := by decide +kernel
theorem dL_law_573 : decode cL_law 573 = .ok (.iadd, 1) := by decide +kernel
theorem dL_law_574 : decode cL_law 574 = .ok (.iaload, 1) := by decide +kernel
theorem dL_law_575 : decode cL_law 575 = .ok (.aload_n 0, 1) := by decide +kernel
theorem dL_law_576 : decode cL_law 576 = .ok (.iload_n 3, 1) := by decide +kernel
theorem dL_law_577 : decode cL_law 577 = .ok (.iconst 3, 1) := by decide +kernel
theorem dL_law_578 : decode cL_law 578 = .ok (.iadd, 1) := by decide +kernel
theorem dL_law_579 : decode cL_law 579 = .ok (.iaload, 1) := by decide +kernel
theorem dL_law_580 : decode cL_law 580 = .ok (.aload_n 0, 1) := by decide +kernel
theorem dL_law_581 : decode cL_law 581 = .ok (.iload_n 3, 1) := by decide +kernel
theorem dL_law_582 : decode cL_law 582 = .ok (.iconst 4, 1) := by decide +kernel
theorem dL_law_583 : decode cL_law 583 = .ok (.iadd, 1) := by decide +kernel
theorem dL_law_584 : decode cL_law 584 = .ok (.iaload, 1) := by decide +kernel
theorem dL_law_585 : decode cL_law 585 = .ok (.invokevirtual 64, 3) := by decide +kernel
theorem dL_law_588 : decode cL_law 588 = .ok (.aload_n 2, 1) := by decide +kernel
theorem dL_law_589 : decode cL_law 589 = .ok (.aload_n 0, 1) := by decide +kernel
theorem dL_law_590 : decode cL_law 590 = .ok (.iload_n 3, 1) := by decide +kernel
theorem dL_law_591 : decode cL_law 591 = .ok (.iconst 1, 1) := by decide +kernel
theorem dL_law_592 : decode cL_law 592 = .ok (.iadd, 1) := by decide +kernel
theorem dL_law_593 : decode cL_law 593 = .ok (.iaload, 1) := by decide +kernel
theorem dL_law_594 : decode cL_law 594 = .ok (.aload_n 0, 1) := by decide +kernel
theorem dL_law_595 : decode cL_law 595 = .ok (.iload_n 3, 1) := by decide +kernel
theorem dL_law_596 : decode cL_law 596 = .ok (.iconst 2, 1) := by decide +kernel
theorem dL_law_597 : decode cL_law 597 = .ok (.iadd, 1) := by decide +kernel
theorem dL_law_598 : decode cL_law 598 = .ok (.iaload, 1) := by decide +kernel
theorem dL_law_599 : decode cL_law 599 = .ok (.aload_n 0, 1) := by decide +kernel
theorem dL_law_600 : decode cL_law 600 = .ok (.iload_n 3, 1) := by decide +kernel
theorem dL_law_601 : decode cL_law 601 = .ok (.iconst 3, 1) := by decide +kernel
theorem dL_law_602 : decode cL_law 602 = .ok (.iadd, 1) := by decide +kernel
theorem dL_law_603 : decode cL_law 603 = .ok (.iaload, 1) := by decide +kernel
theorem dL_law_604 : decode cL_law 604 = .ok (.aload_n 0, 1) := by decide +kernel
theorem dL_law_605 : decode cL_law 605 = .ok (.iload_n 3, 1) := by decide +kernel
theorem dL_law_606 : decode cL_law 606 = .ok (.iconst 4, 1) := by decide +kernel
theorem dL_law_607 : decode cL_law 607 = .ok (.iadd, 1) := by decide +kernel
theorem dL_law_608 : decode cL_law 608 = .ok (.iaload, 1) := by decide +kernel
theorem dL_law_609 : decode cL_law 609 = .ok (.invokevirtual 67, 3) := by decide +kernel
theorem dL_law_612 : decode cL_law 612 = .ok (.if_icmp .eq 351, 3) := by decide +kernel
theorem dL_law_615 : decode cL_law 615 = .ok (.iconst 0, 1) := by decide +kernel
theorem dL_law_616 : decode cL_law 616 = .ok (.ireturn, 1) := by decide +kernel
theorem dL_law_617 : decode cL_law 617 = .ok (.aload_n 1, 1) := by decide +kernel
theorem dL_law_618 : decode cL_law 618 = .ok (.aload_n 0, 1) := by decide +kernel
theorem dL_law_619 : decode cL_law 619 = .ok (.iload_n 3, 1) := by decide +kernel
theorem dL_law_620 : decode cL_law 620 = .ok (.iconst 1, 1) := by decide +kernel
theorem dL_law_621 : decode cL_law 621 = .ok (.iadd, 1) := by decide +kernel
theorem dL_law_622 : decode cL_law 622 = .ok (.iaload, 1) := by decide +kernel
theorem dL_law_623 : decode cL_law 623 = .ok (.aload_n 0, 1) := by decide +kernel
theorem dL_law_624 : decode cL_law 624 = .ok (.iload_n 3, 1) := by decide +kernel
theorem dL_law_625 : decode cL_law 625 = .ok (.iconst 2, 1) := by decide +kernel
theorem dL_law_626 : decode cL_law 626 = .ok (.iadd, 1) := by decide +kernel
theorem dL_law_627 : decode cL_law 627 = .ok (.iaload, 1) := by decide +kernel
theorem dL_law_628 : decode cL_law 628 = .ok (.aload_n 0, 1) := by decide +kernel
theorem dL_law_629 : decode cL_law 629 = .ok (.iload_n 3, 1) := by decide +kernel
theorem dL_law_630 : decode cL_law 630 = .ok (.iconst 3, 1) := by decide +kernel
theorem dL_law_631 : decode cL_law 631 = .ok (.iadd, 1) := by decide +kernel
theorem dL_law_632 : decode cL_law 632 = .ok (.iaload, 1) := by decide +kernel
theorem dL_law_633 : decode cL_law 633 = .ok (.aload_n 0, 1) := by decide +kernel
theorem dL_law_634 : decode cL_law 634 = .ok (.iload_n 3, 1) := by decide +kernel
theorem dL_law_635 : decode cL_law 635 = .ok (.iconst 4, 1) := by decide +kernel
theorem dL_law_636 : decode cL_law 636 = .ok (.iadd, 1) := by decide +kernel
theorem dL_law_637 : decode cL_law 637 = .ok (.iaload, 1) := by decide +kernel
theorem dL_law_638 : decode cL_law 638 = .ok (.invokevirtual 68, 3) := by decide +kernel
theorem dL_law_641 : decode cL_law 641 = .ok (.aload_n 2, 1) := by decide +kernel
theorem dL_law_642 : decode cL_law 642 = .ok (.aload_n 0, 1) := by decide +kernel
theorem dL_law_643 : decode cL_law 643 = .ok (.iload_n 3, 1) := by decide +kernel
theorem dL_law_644 : decode cL_law 644 = .ok (.iconst 1, 1) := by decide +kernel
theorem dL_law_645 : decode cL_law 645 = .ok (.iadd, 1) := by decide +kernel
theorem dL_law_646 : decode cL_law 646 = .ok (.iaload, 1) := by decide +kernel
theorem dL_law_647 : decode cL_law 647 = .ok (.aload_n 0, 1) := by decide +kernel
theorem dL_law_648 : decode cL_law 648 = .ok (.iload_n 3, 1) := by decide +kernel
theorem dL_law_649 : decode cL_law 649 = .ok (.iconst 2, 1) := by decide +kernel
theorem dL_law_650 : decode cL_law 650 = .ok (.iadd, 1) := by decide +kernel
theorem dL_law_651 : decode cL_law 651 = .ok (.iaload, 1) := by decide +kernel
theorem dL_law_652 : decode cL_law 652 = .ok (.aload_n 0, 1) := by decide +kernel
theorem dL_law_653 : decode cL_law 653 = .ok (.iload_n 3, 1) := by decide +kernel
theorem dL_law_654 : decode cL_law 654 = .ok (.iconst 3, 1) := by decide +kernel
theorem dL_law_655 : decode cL_law 655 = .ok (.iadd, 1) := by decide +kernel
theorem dL_law_656 : decode cL_law 656 = .ok (.iaload, 1) := by decide +kernel
theorem dL_law_657 : decode cL_law 657 = .ok (.aload_n 0, 1) := by decide +kernel
theorem dL_law_658 : decode cL_law 658 = .ok (.iload_n 3, 1) := by decide +kernel
theorem dL_law_659 : decode cL_law 659 = .ok (.iconst 4, 1) := by decide +kernel
theorem dL_law_660 : decode cL_law 660 = .ok (.iadd, 1) := by decide +kernel
theorem dL_law_661 : decode cL_law 661 = .ok (.iaload, 1) := by decide +kernel
theorem dL_law_662 : decode cL_law 662 = .ok (.invokevirtual 71, 3) := by decide +kernel
theorem dL_law_665 : decode cL_law 665 = .ok (.if_icmp .eq 298, 3) := by decide +kernel
theorem dL_law_668 : decode cL_law 668 = .ok (.iconst 0, 1) := by decide +kernel
theorem dL_law_669 : decode cL_law 669 = .ok (.ireturn, 1) := by decide +kernel
theorem dL_law_670 : decode cL_law 670 = .ok (.aload_n 1, 1) := by decide +kernel
theorem dL_law_671 : decode cL_law 671 = .ok (.aload_n 0, 1) := by decide +kernel
theorem dL_law_672 : decode cL_law 672 = .ok (.iload_n 3, 1) := by decide +kernel
theorem dL_law_673 : decode cL_law 673 = .ok (.iconst 1, 1) := by decide +kernel
theorem dL_law_674 : decode cL_law 674 = .ok (.iadd, 1) := by decide +kernel
theorem dL_law_675 : decode cL_law 675 = .ok (.iaload, 1) := by decide +kernel
theorem dL_law_676 : decode cL_law 676 = .ok (.aload_n 0, 1) := by decide +kernel
theorem dL_law_677 : decode cL_law 677 = .ok (.iload_n 3, 1) := by decide +kernel
theorem dL_law_678 : decode cL_law 678 = .ok (.iconst 2, 1) := by decide +kernel
theorem dL_law_679 : decode cL_law 679 = .ok (.iadd, 1) := by decide +kernel
theorem dL_law_680 : decode cL_law 680 = .ok (.iaload, 1) := by decide +kernel
theorem dL_law_681 : decode cL_law 681 = .ok (.invokevirtual 72, 3) := by decide +kernel
theorem dL_law_684 : decode cL_law 684 = .ok (.aload_n 2, 1) := by decide +kernel
theorem dL_law_685 : decode cL_law 685 = .ok (.aload_n 0, 1) := by decide +kernel
theorem dL_law_686 : decode cL_law 686 = .ok (.iload_n 3, 1) := by decide +kernel
theorem dL_law_687 : decode cL_law 687 = .ok (.iconst 1, 1) := by decide +kernel
theorem dL_law_688 : decode cL_law 688 = .ok (.iadd, 1) := by decide +kernel
theorem dL_law_689 : decode cL_law 689 = .ok (.iaload, 1) := by decide +kernel
theorem dL_law_690 : decode cL_law 690 = .ok (.aload_n 0, 1) := by decide +kernel
theorem dL_law_691 : decode cL_law 691 = .ok (.iload_n 3, 1) := by decide +kernel
theorem dL_law_692 : decode cL_law 692 = .ok (.iconst 2, 1) := by decide +kernel
theorem dL_law_693 : decode cL_law 693 = .ok (.iadd, 1) := by decide +kernel
theorem dL_law_694 : decode cL_law 694 = .ok (.iaload, 1) := by decide +kernel
theorem dL_law_695 : decode cL_law 695 = .ok (.invokevirtual 75, 3) := by decide +kernel
theorem dL_law_698 : decode cL_law 698 = .ok (.if_icmp .eq 265, 3) := by decide +kernel
theorem dL_law_701 : decode cL_law 701 = .ok (.iconst 0, 1) := by decide +kernel
theorem dL_law_702 : decode cL_law 702 = .ok (.ireturn, 1) := by decide +kernel
theorem dL_law_703 : decode cL_law 703 = .ok (.aload_n 1, 1) := by decide +kernel
theorem dL_law_704 : decode cL_law 704 = .ok (.aload_n 0, 1) := by decide +kernel
theorem dL_law_705 : decode cL_law 705 = .ok (.iload_n 3, 1) := by decide +kernel
theorem dL_law_706 : decode cL_law 706 = .ok (.iconst 1, 1) := by decide +kernel
theorem dL_law_707 : decode cL_law 707 = .ok (.iadd, 1) := by decide +kernel
theorem dL_law_708 : decode cL_law 708 = .ok (.iaload, 1) := by decide +kernel
theorem dL_law_709 : decode cL_law 709 = .ok (.invokevirtual 76, 3) := by decide +kernel
theorem dL_law_712 : decode cL_law 712 = .ok (.aload_n 2, 1) := by decide +kernel
theorem dL_law_713 : decode cL_law 713 = .ok (.aload_n 0, 1) := by decide +kernel
theorem dL_law_714 : decode cL_law 714 = .ok (.iload_n 3, 1) := by decide +kernel
theorem dL_law_715 : decode cL_law 715 = .ok (.iconst 1, 1) := by decide +kernel
theorem dL_law_716 : decode cL_law 716 = .ok (.iadd, 1) := by decide +kernel
theorem dL_law_717 : decode cL_law 717 = .ok (.iaload, 1) := by decide +kernel
theorem dL_law_718 : decode cL_law 718 = .ok (.invokevirtual 79, 3) := by decide +kernel
theorem dL_law_721 : decode cL_law 721 = .ok (.if_icmp .eq 242, 3) := by decide +kernel
theorem dL_law_724 : decode cL_law 724 = .ok (.iconst 0, 1) := by decide +kernel
theorem dL_law_725 : decode cL_law 725 = .ok (.ireturn, 1) := by decide +kernel
theorem dL_law_726 : decode cL_law 726 = .ok (.aload_n 1, 1) := by decide +kernel
theorem dL_law_727 : decode cL_law 727 = .ok (.invokevirtual 80, 3) := by decide +kernel
theorem dL_law_730 : decode cL_law 730 = .ok (.aload_n 2, 1) := by decide +kernel
theorem dL_law_731 : decode cL_law 731 = .ok (.invokevirtual 84, 3) := by decide +kernel
theorem dL_law_734 : decode cL_law 734 = .ok (.if_icmp .eq 229, 3) := by decide +kernel
theorem dL_law_737 : decode cL_law 737 = .ok (.iconst 0, 1) := by decide +kernel
theorem dL_law_738 : decode cL_law 738 = .ok (.ireturn, 1) := by decide +kernel
theorem dL_law_739 : decode cL_law 739 = .ok (.aload_n 1, 1) := by decide +kernel
theorem dL_law_740 : decode cL_law 740 = .ok (.invokevirtual 85, 3) := by decide +kernel
theorem dL_law_743 : decode cL_law 743 = .ok (.aload_n 2, 1) := by decide +kernel
theorem dL_law_744 : decode cL_law 744 = .ok (.invokevirtual 88, 3) := by decide +kernel
theorem dL_law_747 : decode cL_law 747 = .ok (.if_icmp .eq 216, 3) := by decide +kernel
theorem dL_law_750 : decode cL_law 750 = .ok (.iconst 0, 1) := by decide +kernel
theorem dL_law_751 : decode cL_law 751 = .ok (.ireturn, 1) := by decide +kernel
theorem dL_law_752 : decode cL_law 752 = .ok (.aload_n 1, 1) := by decide +kernel
theorem dL_law_753 : decode cL_law 753 = .ok (.aload_n 0, 1) := by decide +kernel
theorem dL_law_754 : decode cL_law 754 = .ok (.iload_n 3, 1) := by decide +kernel
theorem dL_law_755 : decode cL_law 755 = .ok (.iconst 1, 1) := by decide +kernel
theorem dL_law_756 : decode cL_law 756 = .ok (.iadd, 1) := by decide +kernel
theorem dL_law_757 : decode cL_law 757 = .ok (.iaload, 1) := by decide +kernel
theorem dL_law_758 : decode cL_law 758 = .ok (.aload_n 0, 1) := by decide +kernel
theorem dL_law_759 : decode cL_law 759 = .ok (.iload_n 3, 1) := by decide +kernel
theorem dL_law_760 : decode cL_law 760 = .ok (.iconst 2, 1) := by decide +kernel
theorem dL_law_761 : decode cL_law 761 = .ok (.iadd, 1) := by decide +kernel
theorem dL_law_762 : decode cL_law 762 = .ok (.iaload, 1) := by decide +kernel
theorem dL_law_763 : decode cL_law 763 = .ok (.invokevirtual 89, 3) := by decide +kernel
theorem dL_law_766 : decode cL_law 766 = .ok (.aload_n 2, 1) := by decide +kernel
theorem dL_law_767 : decode cL_law 767 = .ok (.aload_n 0, 1) := by decide +kernel
theorem dL_law_768 : decode cL_law 768 = .ok (.iload_n 3, 1) := by decide +kernel
theorem dL_law_769 : decode cL_law 769 = .ok (.iconst 1, 1) := by decide +kernel
theorem dL_law_770 : decode cL_law 770 = .ok (.iadd, 1) := by decide +kernel
theorem dL_law_771 : decode cL_law 771 = .ok (.iaload, 1) := by decide +kernel
theorem dL_law_772 : decode cL_law 772 = .ok (.aload_n 0, 1) := by decide +kernel
theorem dL_law_773 : decode cL_law 773 = .ok (.iload_n 3, 1) := by decide +kernel
theorem dL_law_774 : decode cL_law 774 = .ok (.iconst 2, 1) := by decide +kernel
theorem dL_law_775 : decode cL_law 775 = .ok (.iadd, 1) := by decide +kernel
theorem dL_law_776 : decode cL_law 776 = .ok (.iaload, 1) := by decide +kernel
theorem dL_law_777 : decode cL_law 777 = .ok (.invokevirtual 92, 3) := by decide +kernel
theorem dL_law_780 : decode cL_law 780 = .ok (.if_icmp .eq 183, 3) := by decide +kernel
theorem dL_law_783 : decode cL_law 783 = .ok (.iconst 0, 1) := by decide +kernel
theorem dL_law_784 : decode cL_law 784 = .ok (.ireturn, 1) := by decide +kernel
theorem dL_law_785 : decode cL_law 785 = .ok (.aload_n 1, 1) := by decide +kernel
theorem dL_law_786 : decode cL_law 786 = .ok (.aload_n 0, 1) := by decide +kernel
theorem dL_law_787 : decode cL_law 787 = .ok (.iload_n 3, 1) := by decide +kernel
theorem dL_law_788 : decode cL_law 788 = .ok (.iconst 1, 1) := by decide +kernel
theorem dL_law_789 : decode cL_law 789 = .ok (.iadd, 1) := by decide +kernel
theorem dL_law_790 : decode cL_law 790 = .ok (.iaload, 1) := by decide +kernel
theorem dL_law_791 : decode cL_law 791 = .ok (.aload_n 0, 1) := by decide +kernel
theorem dL_law_792 : decode cL_law 792 = .ok (.iload_n 3, 1) := by decide +kernel
theorem dL_law_793 : decode cL_law 793 = .ok (.iconst 2, 1) := by decide +kernel
theorem dL_law_794 : decode cL_law 794 = .ok (.iadd, 1) := by decide +kernel
theorem dL_law_795 : decode cL_law 795 = .ok (.iaload, 1) := by decide +kernel
theorem dL_law_796 : decode cL_law 796 = .ok (.invokevirtual 93, 3) := by decide +kernel
theorem dL_law_799 : decode cL_law 799 = .ok (.aload_n 2, 1) := by decide +kernel
theorem dL_law_800 : decode cL_law 800 = .ok (.aload_n 0, 1) := by decide +kernel
theorem dL_law_801 : decode cL_law 801 = .ok (.iload_n 3, 1) := by decide +kernel
theorem dL_law_802 : decode cL_law 802 = .ok (.iconst 1, 1) := by decide +kernel
theorem dL_law_803 : decode cL_law 803 = .ok (.iadd, 1) := by decide +kernel
theorem dL_law_804 : decode cL_law 804 = .ok (.iaload, 1) := by decide +kernel
theorem dL_law_805 : decode cL_law 805 = .ok (.aload_n 0, 1) := by decide +kernel
theorem dL_law_806 : decode cL_law 806 = .ok (.iload_n 3, 1) := by decide +kernel
theorem dL_law_807 : decode cL_law 807 = .ok (.iconst 2, 1) := by decide +kernel
theorem dL_law_808 : decode cL_law 808 = .ok (.iadd, 1) := by decide +kernel
theorem dL_law_809 : decode cL_law 809 = .ok (.iaload, 1) := by decide +kernel
theorem dL_law_810 : decode cL_law 810 = .ok (.invokevirtual 96, 3) := by decide +kernel
theorem dL_law_813 : decode cL_law 813 = .ok (.if_icmp .eq 150, 3) := by decide +kernel
theorem dL_law_816 : decode cL_law 816 = .ok (.iconst 0, 1) := by decide +kernel
theorem dL_law_817 : decode cL_law 817 = .ok (.ireturn, 1) := by decide +kernel
theorem dL_law_818 : decode cL_law 818 = .ok (.aload_n 1, 1) := by decide +kernel
theorem dL_law_819 : decode cL_law 819 = .ok (.aload_n 0, 1) := by decide +kernel
theorem dL_law_820 : decode cL_law 820 = .ok (.iload_n 3, 1) := by decide +kernel
theorem dL_law_821 : decode cL_law 821 = .ok (.iconst 1, 1) := by decide +kernel
theorem dL_law_822 : decode cL_law 822 = .ok (.iadd, 1) := by decide +kernel
theorem dL_law_823 : decode cL_law 823 = .ok (.iaload, 1) := by decide +kernel
theorem dL_law_824 : decode cL_law 824 = .ok (.aload_n 0, 1) := by decide +kernel
theorem dL_law_825 : decode cL_law 825 = .ok (.iload_n 3, 1) := by decide +kernel
theorem dL_law_826 : decode cL_law 826 = .ok (.iconst 2, 1) := by decide +kernel
theorem dL_law_827 : decode cL_law 827 = .ok (.iadd, 1) := by decide +kernel
theorem dL_law_828 : decode cL_law 828 = .ok (.iaload, 1) := by decide +kernel
theorem dL_law_829 : decode cL_law 829 = .ok (.invokevirtual 97, 3) := by decide +kernel
theorem dL_law_832 : decode cL_law 832 = .ok (.aload_n 2, 1) := by decide +kernel
theorem dL_law_833 : decode cL_law 833 = .ok (.aload_n 0, 1) := by decide +kernel
theorem dL_law_834 : decode cL_law 834 = .ok (.iload_n 3, 1) := by decide +kernel
theorem dL_law_835 : decode cL_law 835 = .ok (.iconst 1, 1) := by decide +kernel
theorem dL_law_836 : decode cL_law 836 = .ok (.iadd, 1) := by decide +kernel
theorem dL_law_837 : decode cL_law 837 = .ok (.iaload, 1) := by decide +kernel
theorem dL_law_838 : decode cL_law 838 = .ok (.aload_n 0, 1) := by decide +kernel
theorem dL_law_839 : decode cL_law 839 = .ok (.iload_n 3, 1) := by decide +kernel
theorem dL_law_840 : decode cL_law 840 = .ok (.iconst 2, 1) := by decide +kernel
theorem dL_law_841 : decode cL_law 841 = .ok (.iadd, 1) := by decide +kernel
theorem dL_law_842 : decode cL_law 842 = .ok (.iaload, 1) := by decide +kernel
theorem dL_law_843 : decode cL_law 843 = .ok (.invokevirtual 100, 3) := by decide +kernel
theorem dL_law_846 : decode cL_law 846 = .ok (.if_icmp .eq 117, 3) := by decide +kernel
theorem dL_law_849 : decode cL_law 849 = .ok (.iconst 0, 1) := by decide +kernel
theorem dL_law_850 : decode cL_law 850 = .ok (.ireturn, 1) := by decide +kernel
theorem dL_law_851 : decode cL_law 851 = .ok (.aload_n 1, 1) := by decide +kernel
theorem dL_law_852 : decode cL_law 852 = .ok (.aload_n 0, 1) := by decide +kernel
theorem dL_law_853 : decode cL_law 853 = .ok (.iload_n 3, 1) := by decide +kernel
theorem dL_law_854 : decode cL_law 854 = .ok (.iconst 1, 1) := by decide +kernel
theorem dL_law_855 : decode cL_law 855 = .ok (.iadd, 1) := by decide +kernel
theorem dL_law_856 : decode cL_law 856 = .ok (.iaload, 1) := by decide +kernel
theorem dL_law_857 : decode cL_law 857 = .ok (.invokevirtual 101, 3) := by decide +kernel
theorem dL_law_860 : decode cL_law 860 = .ok (.aload_n 2, 1) := by decide +kernel
theorem dL_law_861 : decode cL_law 861 = .ok (.aload_n 0, 1) := by decide +kernel
theorem dL_law_862 : decode cL_law 862 = .ok (.iload_n 3, 1) := by decide +kernel
theorem dL_law_863 : decode cL_law 863 = .ok (.iconst 1, 1) := by decide +kernel
theorem dL_law_864 : decode cL_law 864 = .ok (.iadd, 1) := by decide +kernel
theorem dL_law_865 : decode cL_law 865 = .ok (.iaload, 1) := by decide +kernel
theorem dL_law_866 : decode cL_law 866 = .ok (.invokevirtual 104, 3) := by decide +kernel
theorem dL_law_869 : decode cL_law 869 = .ok (.if_icmp .eq 94, 3) := by decide +kernel
theorem dL_law_872 : decode cL_law 872 = .ok (.iconst 0, 1) := by decide +kernel
theorem dL_law_873 : decode cL_law 873 = .ok (.ireturn, 1) := by decide +kernel
theorem dL_law_874 : decode cL_law 874 = .ok (.aload_n 1, 1) := by decide +kernel
theorem dL_law_875 : decode cL_law 875 = .ok (.aload_n 0, 1) := by decide +kernel
theorem dL_law_876 : decode cL_law 876 = .ok (.iload_n 3, 1) := by decide +kernel
theorem dL_law_877 : decode cL_law 877 = .ok (.iconst 1, 1) := by decide +kernel
theorem dL_law_878 : decode cL_law 878 = .ok (.iadd, 1) := by decide +kernel
theorem dL_law_879 : decode cL_law 879 = .ok (.iaload, 1) := by decide +kernel
theorem dL_law_880 : decode cL_law 880 = .ok (.aload_n 0, 1) := by decide +kernel
theorem dL_law_881 : decode cL_law 881 = .ok (.iload_n 3, 1) := by decide +kernel
theorem dL_law_882 : decode cL_law 882 = .ok (.iconst 2, 1) := by decide +kernel
theorem dL_law_883 : decode cL_law 883 = .ok (.iadd, 1) := by decide +kernel
theorem dL_law_884 : decode cL_law 884 = .ok (.iaload, 1) := by decide +kernel
theorem dL_law_885 : decode cL_law 885 = .ok (.aload_n 0, 1) := by decide +kernel
theorem dL_law_886 : decode cL_law 886 = .ok (.iload_n 3, 1) := by decide +kernel
theorem dL_law_887 : decode cL_law 887 = .ok (.iconst 3, 1) := by decide +kernel
theorem dL_law_888 : decode cL_law 888 = .ok (.iadd, 1) := by decide +kernel
theorem dL_law_889 : decode cL_law 889 = .ok (.iaload, 1) := by decide +kernel
theorem dL_law_890 : decode cL_law 890 = .ok (.invokevirtual 105, 3) := by decide +kernel
theorem dL_law_893 : decode cL_law 893 = .ok (.aload_n 2, 1) := by decide +kernel
theorem dL_law_894 : decode cL_law 894 = .ok (.aload_n 0, 1) := by decide +kernel
theorem dL_law_895 : decode cL_law 895 = .ok (.iload_n 3, 1) := by decide +kernel
theorem dL_law_896 : decode cL_law 896 = .ok (.iconst 1, 1) := by decide +kernel
theorem dL_law_897 : decode cL_law 897 = .ok (.iadd, 1) := by decide +kernel
theorem dL_law_898 : decode cL_law 898 = .ok (.iaload, 1) := by decide +kernel
theorem dL_law_899 : decode cL_law 899 = .ok (.aload_n 0, 1) := by decide +kernel
theorem dL_law_900 : decode cL_law 900 = .ok (.iload_n 3, 1) := by decide +kernel
theorem dL_law_901 : decode cL_law 901 = .ok (.iconst 2, 1) := by decide +kernel
theorem dL_law_902 : decode cL_law 902 = .ok (.iadd, 1) := by decide +kernel
theorem dL_law_903 : decode cL_law 903 = .ok (.iaload, 1) := by decide +kernel
theorem dL_law_904 : decode cL_law 904 = .ok (.aload_n 0, 1) := by decide +kernel
theorem dL_law_905 : decode cL_law 905 = .ok (.iload_n 3, 1) := by decide +kernel
theorem dL_law_906 : decode cL_law 906 = .ok (.iconst 3, 1) := by decide +kernel
theorem dL_law_907 : decode cL_law 907 = .ok (.iadd, 1) := by decide +kernel
theorem dL_law_908 : decode cL_law 908 = .ok (.iaload, 1) := by decide +kernel
theorem dL_law_909 : decode cL_law 909 = .ok (.invokevirtual 109, 3) := by decide +kernel
theorem dL_law_912 : decode cL_law 912 = .ok (.if_icmp .eq 51, 3) := by decide +kernel
theorem dL_law_915 : decode cL_law 915 = .ok (.iconst 0, 1) := by decide +kernel
theorem dL_law_916 : decode cL_law 916 = .ok (.ireturn, 1) := by decide +kernel
theorem dL_law_917 : decode cL_law 917 = .ok (.aload_n 1, 1) := by decide +kernel
theorem dL_law_918 : decode cL_law 918 = .ok (.aload_n 0, 1) := by decide +kernel
theorem dL_law_919 : decode cL_law 919 = .ok (.iload_n 3, 1) := by decide +kernel
theorem dL_law_920 : decode cL_law 920 = .ok (.iconst 1, 1) := by decide +kernel
theorem dL_law_921 : decode cL_law 921 = .ok (.iadd, 1) := by decide +kernel
theorem dL_law_922 : decode cL_law 922 = .ok (.iaload, 1) := by decide +kernel
theorem dL_law_923 : decode cL_law 923 = .ok (.invokevirtual 110, 3) := by decide +kernel
theorem dL_law_926 : decode cL_law 926 = .ok (.aload_n 2, 1) := by decide +kernel
theorem dL_law_927 : decode cL_law 927 = .ok (.aload_n 0, 1) := by decide +kernel
theorem dL_law_928 : decode cL_law 928 = .ok (.iload_n 3, 1) := by decide +kernel
theorem dL_law_929 : decode cL_law 929 = .ok (.iconst 1, 1) := by decide +kernel
theorem dL_law_930 : decode cL_law 930 = .ok (.iadd, 1) := by decide +kernel
theorem dL_law_931 : decode cL_law 931 = .ok (.iaload, 1) := by decide +kernel
theorem dL_law_932 : decode cL_law 932 = .ok (.invokevirtual 113, 3) := by decide +kernel
theorem dL_law_935 : decode cL_law 935 = .ok (.if_icmp .eq 28, 3) := by decide +kernel
theorem dL_law_938 : decode cL_law 938 = .ok (.iconst 0, 1) := by decide +kernel
theorem dL_law_939 : decode cL_law 939 = .ok (.ireturn, 1) := by decide +kernel
theorem dL_law_940 : decode cL_law 940 = .ok (.aload_n 1, 1) := by decide +kernel
theorem dL_law_941 : decode cL_law 941 = .ok (.aload_n 0, 1) := by decide +kernel
theorem dL_law_942 : decode cL_law 942 = .ok (.iload_n 3, 1) := by decide +kernel
theorem dL_law_943 : decode cL_law 943 = .ok (.iconst 1, 1) := by decide +kernel
theorem dL_law_944 : decode cL_law 944 = .ok (.iadd, 1) := by decide +kernel
theorem dL_law_945 : decode cL_law 945 = .ok (.iaload, 1) := by decide +kernel
theorem dL_law_946 : decode cL_law 946 = .ok (.invokevirtual 114, 3) := by decide +kernel
theorem dL_law_949 : decode cL_law 949 = .ok (.aload_n 2, 1) := by decide +kernel
theorem dL_law_950 : decode cL_law 950 = .ok (.aload_n 0, 1) := by decide +kernel
theorem dL_law_951 : decode cL_law 951 = .ok (.iload_n 3, 1) := by decide +kernel
theorem dL_law_952 : decode cL_law 952 = .ok (.iconst 1, 1) := by decide +kernel
theorem dL_law_953 : decode cL_law 953 = .ok (.iadd, 1) := by decide +kernel
theorem dL_law_954 : decode cL_law 954 = .ok (.iaload, 1) := by decide +kernel
theorem dL_law_955 : decode cL_law 955 = .ok (.invokevirtual 117, 3) := by decide +kernel
theorem dL_law_958 : decode cL_law 958 = .ok (.if_icmp .eq 5, 3) := by decide +kernel
theorem dL_law_961 : decode cL_law 961 = .ok (.iconst 0, 1) := by decide +kernel
theorem dL_law_962 : decode cL_law 962 = .ok (.ireturn, 1) := by decide +kernel
theorem dL_law_963 : decode cL_law 963 = .ok (.iinc 3 5, 3) := by decide +kernel
theorem dL_law_966 : decode cL_law 966 = .ok (.goto (-948), 3) := by decide +kernel
theorem dL_law_969 : decode cL_law 969 = .ok (.iconst 1, 1) := by decide +kernel
theorem dL_law_970 : decode cL_law 970 = .ok (.ireturn, 1) := by decide +kernel
abbrev vwCl : List vw_C := [(RX0, TX0, 7), (RX1, TX1, 8), (RX2, TX2, 11), (RX3, TX3, 5), (RX4, TX4, 2), (RX5, TX5, 6), (RX6, TX6, 5), (RX7, TX7, 9), (RX8, TX8, 45)]
end
section
/-! the system's cells: a shape that stays, and a state: of each cell (by its number) what its places hold -/
abbrev ct_St : Type := Nat → Nat → Int32
/-- the state with the cell i's places replaced -/
def ur (t : ct_St) (i : Nat) (f : Nat → Int32) : ct_St := fun a => if a = i then f else t a
/-- the state with one place written -/
def us (t : ct_St) (i k : Nat) (v : Int32) : ct_St := ur t i (upd (t i) k v)
/-- a Java int as a place -/
abbrev ix (x : Int32) : Nat := x.toNatClampNeg
/-- a cell's kind: an array of ints (type, length); an array of cells (type, their numbers); an object (class, of each field the number of the cell that it names, if it is a reference) -/
abbrev ct_K : Type := (Nat × Nat) ⊕ (Nat × List Nat) ⊕ (Nat × List (Option Nat))
abbrev ct_G : Type := va_G × (Nat → Nat) × (Nat → ClassId)
def ct_fv (g : ct_G) (f : Nat → Int32) (fs : List (Option Nat)) (j : Nat) : Value := match fs.getD j none with
  | some r => .ref (g.2.1 r)
  | none => .int (f j)
def ct_e (g : ct_G) (f : Nat → Int32) (k : ct_K) : va_E := match k with
  | .inl a => .inl (g.2.2 a.1, a.2, .inl f)
  | .inr (.inl a) => .inl (g.2.2 a.1, a.2.length, .inr (.inr (.inr (.inr (fun j => (a.2[j]?).map g.2.1)))))
  | .inr (.inr o) => .inr (o.1, (List.range o.2.length).map (ct_fv g f o.2))
def ct_w (g : ct_G) (sh : List ct_K) (t : ct_St) : va_W := (List.range sh.length).map (fun i => (g.2.1 i, ct_e g (t i) (sh.getD i (.inl (0, 0)))))
theorem ur_at (t : ct_St) (i : Nat) (f : Nat → Int32) : ur t i f i = f := if_pos rfl
theorem ur_ne (t : ct_St) {i a : Nat} (f : Nat → Int32) (h : a ≠ i) : ur t i f a = t a := if_neg h
theorem ur_self (t : ct_St) (i : Nat) : ur t i (t i) = t := by
  funext a
  unfold ur
  split
  · next h => rw [h]
  · rfl
theorem ur_ur (t : ct_St) (i : Nat) (f h : Nat → Int32) : ur (ur t i f) i h = ur t i h := by
  funext a
  unfold ur
  split <;> rfl
theorem us_ur (t : ct_St) (i : Nat) (f : Nat → Int32) (k : Nat) (v : Int32) : us (ur t i f) i k v = ur t i (upd f k v) := by
  unfold us
  rw [ur_at, ur_ur]
theorem ct_w_at {g : ct_G} {sh : List ct_K} {t : ct_St} {i : Nat} {k : ct_K} (h : sh[i]? = some k) : (ct_w g sh t)[i]? = some (g.2.1 i, ct_e g (t i) k) := by
  have hl := (List.getElem?_eq_some_iff.mp h).1
  simp [ct_w, List.getElem?_map, List.getElem?_range hl, List.getD_eq_getElem?_getD, h]
theorem ct_w_set {g : ct_G} {sh : List ct_K} {t : ct_St} {i : Nat} {k : ct_K} {f : Nat → Int32} (h : sh[i]? = some k) : (ct_w g sh t).set i (g.2.1 i, ct_e g f k) = ct_w g sh (ur t i f) := by
  have hl := (List.getElem?_eq_some_iff.mp h).1
  apply List.ext_getElem?
  intro j
  by_cases hj : j < sh.length
  · by_cases hji : j = i
    · subst hji
      have h1 : j < (ct_w g sh t).length := by simp [ct_w]; exact hl
      rw [List.getElem?_set_self h1, ct_w_at h, ur_at]
    · obtain ⟨kj, hkj⟩ : ∃ kj, sh[j]? = some kj := ⟨_, List.getElem?_eq_getElem hj⟩
      rw [List.getElem?_set_ne (Ne.symm hji), ct_w_at hkj, ct_w_at hkj, ur_ne t f hji]
  · have e1 : ((ct_w g sh t).set i (g.2.1 i, ct_e g f k))[j]? = none := List.getElem?_eq_none (by simp [ct_w]; omega)
    have e2 : (ct_w g sh (ur t i f))[j]? = none := List.getElem?_eq_none (by simp [ct_w]; omega)
    rw [e1, e2]
theorem ct_fs_len {g : ct_G} {f : Nat → Int32} {fs : List (Option Nat)} : ((List.range fs.length).map (ct_fv g f fs)).length = fs.length := by simp
theorem ct_fs_i {g : ct_G} {f : Nat → Int32} {fs : List (Option Nat)} {k : Nat} (h : fs[k]? = some none) : ((List.range fs.length).map (ct_fv g f fs))[k]? = some (.int (f k)) := by
  have hl := (List.getElem?_eq_some_iff.mp h).1
  simp [List.getElem?_map, List.getElem?_range hl, ct_fv, List.getD_eq_getElem?_getD, h]
theorem ct_fs_r {g : ct_G} {f : Nat → Int32} {fs : List (Option Nat)} {k r : Nat} (h : fs[k]? = some (some r)) : ((List.range fs.length).map (ct_fv g f fs))[k]? = some (.ref (g.2.1 r)) := by
  have hl := (List.getElem?_eq_some_iff.mp h).1
  simp [List.getElem?_map, List.getElem?_range hl, ct_fv, List.getD_eq_getElem?_getD, h]
theorem ct_fs_set {g : ct_G} {f : Nat → Int32} {fs : List (Option Nat)} {k : Nat} {v : Int32} (h : fs[k]? = some none) : ((List.range fs.length).map (ct_fv g f fs)).set k (.int v) = (List.range fs.length).map (ct_fv g (upd f k v) fs) := by
  have hl := (List.getElem?_eq_some_iff.mp h).1
  apply List.ext_getElem?
  intro j
  by_cases hj : j < fs.length
  · by_cases hjk : j = k
    · subst hjk
      rw [List.getElem?_set_self (by rw [ct_fs_len]; exact hl), ct_fs_i h]
      simp [upd]
    · rw [List.getElem?_set_ne (Ne.symm hjk)]
      simp only [List.getElem?_map, List.getElem?_range hj, Option.map_some]
      unfold ct_fv
      split
      · rfl
      · simp [upd, hjk]
  · rw [List.getElem?_eq_none (by simp; omega), List.getElem?_eq_none (by simp; omega)]
/-- the kinds of arrays, by number -/
def ct_ty (g : ct_G) : List (ClassId × FieldType) := [(g.2.2 0, .int), (g.2.2 1, .boolean), (g.2.2 2, .object RX2), (g.2.2 3, .object RX3), (g.2.2 4, .object RX0), (g.2.2 5, .object RX1), (g.2.2 6, .object RX4)]
/-- the one link between nest mates that a method uses -/
def ct_nk (U : State) : Prop := va_Nw (.methodLinkNest RX5 37 yX7_within "ChipTimers") U
/-- a method's start: the cells hold the state t -/
def ct_B (g : ct_G) (sh : List ct_K) (t : ct_St) (sz : Nat) (U : State) : Prop := U.heap.size = sz ∧ va_P g.1 vwCl (ct_w g sh t) U.heap ∧ va_K g.1 vwCl (ct_ty g) U ∧ va_D (fun _ => True) (ct_w g sh t) ∧ ct_nk U
/-- a method's contract: from the state t, by the arguments av, it answers r, and the state is u -/
def MI (l : Launch) (g : ct_G) (sh : List ct_K) (y : MethodName) (ws : List Cond) (rm : Room) (av : List Value) (t : ct_St) (r : Int32) (u : ct_St) : Prop := ∀ sz : Nat, Met l y ws rm (va_Pc av (ct_B g sh t sz)) (va_Qi (fun (x : Int32) (v : ct_St) => x = r ∧ v = u) (fun v T => va_P g.1 vwCl (ct_w g sh v) T.heap ∧ va_D (va_A (ct_w g sh t) sz) (ct_w g sh v)) (va_A (ct_w g sh t) sz)) 0 0 (va_A (ct_w g sh t) sz)
/-- the same of a method that answers nothing -/
def MV (l : Launch) (g : ct_G) (sh : List ct_K) (y : MethodName) (ws : List Cond) (rm : Room) (av : List Value) (t : ct_St) (u : ct_St) : Prop := ∀ sz : Nat, Met l y ws rm (va_Pc av (ct_B g sh t sz)) (va_Qv (fun (v : ct_St) => v = u) (fun v T => va_P g.1 vwCl (ct_w g sh v) T.heap ∧ va_D (va_A (ct_w g sh t) sz) (ct_w g sh v)) (va_A (ct_w g sh t) sz)) 0 0 (va_A (ct_w g sh t) sz)
theorem ct_blind {av : List Value} {g : ct_G} {sh : List ct_K} {t : ct_St} {sz : Nat} : FrameBlind (va_Pc av (ct_B g sh t sz)) := fun a U f mk q => by
  obtain ⟨q0, q1, qP, qK, qD, qN⟩ := q
  exact ⟨q0, q1, qP, va_K.moved (u := U) (U := U.calling f mk a) (Vm.Alike.refl U.vm) qK, qD, va_Nw.same rfl (U := U.calling f mk a) rfl qN⟩
section CTV
variable {p : Program} {l : Launch} {e : Env} {R : Room} {s : State} {m : MethodId} {args : Array Value} {below : List Frame} {meth : Method} {c : Code} {cells slots : Nat} {Q : State → Prop} {A : Nat → Prop} {g : ct_G} {sh : List ct_K} {t : ct_St} {cc : ByteArray} {own : String} {ws : List Cond} {nL : Nat} {pc : Nat} {ls : Array Slot} {rest : List Value}
/-- the machine at the frame f, its cells in the state t, comes to Q -/
def VW (p : Program) (l : Launch) (e : Env) (R : Room) (s : State) (m : MethodId) (args : Array Value) (below : List Frame) (meth : Method) (c : Code) (cells slots : Nat) (Q : State → Prop) (A : Nat → Prop) (g : ct_G) (sh : List ct_K) (t : ct_St) (f : JFrame) : Prop := ∀ (H : Heap) (locs : List Loc), va_P g.1 vwCl (ct_w g sh t) H → va_D A (ct_w g sh t) → va_S A s.heap H locs → W p l e R s m args below meth c H locs cells slots Q f
/-- what holds all through a method -/
def Cx (p : Program) (s : State) (m : MethodId) (args : Array Value) (c : Code) (A : Nat → Prop) (g : ct_G) (cc : ByteArray) (own : String) (ws : List Cond) (nL : Nat) : Prop :=
  p.tables.exec = Jvm.exec ∧ c.code = cc ∧ c.maxLocals = nL ∧ s.vm.findClass own = some m.cls ∧ (∀ w ∈ ws, w.before args s = true) ∧ va_K g.1 vwCl (ct_ty g) s ∧ (∀ q, s.heap.size ≤ q → A q) ∧ ct_nk s
theorem Cx.w (C : Cx p s m args c A g cc own ws nL) (i : Nat) {x : Cond} (h : ws[i]? = some x) : x.before args s = true := C.2.2.2.2.1 x (List.mem_of_getElem? h)
theorem Cx.fix (C : Cx p s m args c A g cc own ws nL) : CallFix p m c cc nL s args ws own := ⟨C.1, C.2.1, C.2.2.1, C.2.2.2.1, C.2.2.2.2.1⟩
theorem VW.of {f1 f2 : JFrame} (h : ∀ (H : Heap) (locs : List Loc), W p l e R s m args below meth c H locs cells slots Q f2 → W p l e R s m args below meth c H locs cells slots Q f1) (k : VW p l e R s m args below meth c cells slots Q A g sh t f2) : VW p l e R s m args below meth c cells slots Q A g sh t f1 := fun H locs hP hD hS => h H locs (k H locs hP hD hS)
theorem VW.by (P : Prop) {f : JFrame} (k1 : P → VW p l e R s m args below meth c cells slots Q A g sh t f) (k2 : ¬ P → VW p l e R s m args below meth c cells slots Q A g sh t f) : VW p l e R s m args below meth c cells slots Q A g sh t f := (Classical.em P).elim k1 k2
theorem VW.gen {f : JFrame} (k : ∀ u : ct_St, u = t → VW p l e R s m args below meth c cells slots Q A g sh u f) : VW p l e R s m args below meth c cells slots Q A g sh t f := k t rfl
theorem VW.st {u : ct_St} {f : JFrame} (h : t = u) (k : VW p l e R s m args below meth c cells slots Q A g sh u f) : VW p l e R s m args below meth c cells slots Q A g sh t f := by rw [h]; exact k
theorem VW.fr {f f2 : JFrame} (h : f = f2) (k : VW p l e R s m args below meth c cells slots Q A g sh t f2) : VW p l e R s m args below meth c cells slots Q A g sh t f := by rw [h]; exact k
theorem v_topi {x : Int32} (k : ∀ y : Int32, y = x → VW p l e R s m args below meth c cells slots Q A g sh t (F0 m pc ls (.int y :: rest))) : VW p l e R s m args below meth c cells slots Q A g sh t (F0 m pc ls (.int x :: rest)) := k x rfl
theorem v_iconst (C : Cx p s m args c A g cc own ws nL) {n : Int} {v : Int32} (d : decode cc pc = .ok (.iconst n, 1)) (hv : Int32.ofInt n = v) (k : VW p l e R s m args below meth c cells slots Q A g sh t (F0 m (pc + 1) ls (.int v :: rest))) : VW p l e R s m args below meth c cells slots Q A g sh t (F0 m pc ls rest) := VW.of (fun _ _ => lv_iconst C.1 C.2.1 d hv) k
theorem v_bipush (C : Cx p s m args c A g cc own ws nL) {n : Int} {v : Int32} (d : decode cc pc = .ok (.bipush n, 2)) (hv : (Int8.ofInt n).toInt32 = v) (k : VW p l e R s m args below meth c cells slots Q A g sh t (F0 m (pc + 2) ls (.int v :: rest))) : VW p l e R s m args below meth c cells slots Q A g sh t (F0 m pc ls rest) := VW.of (fun _ _ => lv_bipush C.1 C.2.1 d hv) k
theorem v_sipush (C : Cx p s m args c A g cc own ws nL) {n : Int} {v : Int32} (d : decode cc pc = .ok (.sipush n, 3)) (hv : (Int16.ofInt n).toInt32 = v) (k : VW p l e R s m args below meth c cells slots Q A g sh t (F0 m (pc + 3) ls (.int v :: rest))) : VW p l e R s m args below meth c cells slots Q A g sh t (F0 m pc ls rest) := VW.of (fun _ _ => lv_sipush C.1 C.2.1 d hv) k
theorem v_iload_n (C : Cx p s m args c A g cc own ws nL) {k0 : Fin 4} {i : Nat} {x : Int32} (d : decode cc pc = .ok (.iload_n k0, 1)) (hi : (k0 : Nat) = i) (hl : ls[i]? = some (.val (.int x))) (k : VW p l e R s m args below meth c cells slots Q A g sh t (F0 m (pc + 1) ls (.int x :: rest))) : VW p l e R s m args below meth c cells slots Q A g sh t (F0 m pc ls rest) := VW.of (fun _ _ => lv_iload_n C.1 C.2.1 d hi hl) k
theorem v_iload (C : Cx p s m args c A g cc own ws nL) {i : Nat} {x : Int32} (d : decode cc pc = .ok (.iload i, 2)) (hl : ls[i]? = some (.val (.int x))) (k : VW p l e R s m args below meth c cells slots Q A g sh t (F0 m (pc + 2) ls (.int x :: rest))) : VW p l e R s m args below meth c cells slots Q A g sh t (F0 m pc ls rest) := VW.of (fun _ _ => lv_iload C.1 C.2.1 d hl) k
theorem v_aload_n (C : Cx p s m args c A g cc own ws nL) {k0 : Fin 4} {i : Nat} {x : Nat} (d : decode cc pc = .ok (.aload_n k0, 1)) (hi : (k0 : Nat) = i) (hl : ls[i]? = some (.val (.ref x))) (k : VW p l e R s m args below meth c cells slots Q A g sh t (F0 m (pc + 1) ls (.ref x :: rest))) : VW p l e R s m args below meth c cells slots Q A g sh t (F0 m pc ls rest) := VW.of (fun _ _ => lv_aload_n C.1 C.2.1 d hi hl) k
theorem v_aload (C : Cx p s m args c A g cc own ws nL) {i : Nat} {x : Nat} (d : decode cc pc = .ok (.aload i, 2)) (hl : ls[i]? = some (.val (.ref x))) (k : VW p l e R s m args below meth c cells slots Q A g sh t (F0 m (pc + 2) ls (.ref x :: rest))) : VW p l e R s m args below meth c cells slots Q A g sh t (F0 m pc ls rest) := VW.of (fun _ _ => lv_aload C.1 C.2.1 d hl) k
theorem v_istore_n (C : Cx p s m args c A g cc own ws nL) {k0 : Fin 4} {i : Nat} {x : Int32} {lv lv' : List (Nat × Value)} (d : decode cc pc = .ok (.istore_n k0, 1)) (hi : (k0 : Nat) = i) (h : lv_has ls nL lv) (hn : i < nL) (hl : (i, Value.int x) :: lv.filter (fun q => !(q.1 == i) && !(q.1 + 1 == i && q.2.category == 2)) = lv') (k : ∀ ls' : Array Slot, lv_has ls' nL lv' → VW p l e R s m args below meth c cells slots Q A g sh t (F0 m (pc + 1) ls' rest)) : VW p l e R s m args below meth c cells slots Q A g sh t (F0 m pc ls (.int x :: rest)) := fun H locs hP hD hS => lv_istore_n C.1 C.2.1 d hi h hn hl (fun ls' h' => k ls' h' H locs hP hD hS)
theorem v_istore (C : Cx p s m args c A g cc own ws nL) {i : Nat} {x : Int32} {lv lv' : List (Nat × Value)} (d : decode cc pc = .ok (.istore i, 2)) (h : lv_has ls nL lv) (hn : i < nL) (hl : (i, Value.int x) :: lv.filter (fun q => !(q.1 == i) && !(q.1 + 1 == i && q.2.category == 2)) = lv') (k : ∀ ls' : Array Slot, lv_has ls' nL lv' → VW p l e R s m args below meth c cells slots Q A g sh t (F0 m (pc + 2) ls' rest)) : VW p l e R s m args below meth c cells slots Q A g sh t (F0 m pc ls (.int x :: rest)) := fun H locs hP hD hS => lv_istore C.1 C.2.1 d h hn hl (fun ls' h' => k ls' h' H locs hP hD hS)
theorem v_astore_n (C : Cx p s m args c A g cc own ws nL) {k0 : Fin 4} {i : Nat} {x : Nat} {lv lv' : List (Nat × Value)} (d : decode cc pc = .ok (.astore_n k0, 1)) (hi : (k0 : Nat) = i) (h : lv_has ls nL lv) (hn : i < nL) (hl : (i, Value.ref x) :: lv.filter (fun q => !(q.1 == i) && !(q.1 + 1 == i && q.2.category == 2)) = lv') (k : ∀ ls' : Array Slot, lv_has ls' nL lv' → VW p l e R s m args below meth c cells slots Q A g sh t (F0 m (pc + 1) ls' rest)) : VW p l e R s m args below meth c cells slots Q A g sh t (F0 m pc ls (.ref x :: rest)) := fun H locs hP hD hS => lv_astore_n C.1 C.2.1 d hi h hn hl (fun ls' h' => k ls' h' H locs hP hD hS)
theorem v_astore (C : Cx p s m args c A g cc own ws nL) {i : Nat} {x : Nat} {lv lv' : List (Nat × Value)} (d : decode cc pc = .ok (.astore i, 2)) (h : lv_has ls nL lv) (hn : i < nL) (hl : (i, Value.ref x) :: lv.filter (fun q => !(q.1 == i) && !(q.1 + 1 == i && q.2.category == 2)) = lv') (k : ∀ ls' : Array Slot, lv_has ls' nL lv' → VW p l e R s m args below meth c cells slots Q A g sh t (F0 m (pc + 2) ls' rest)) : VW p l e R s m args below meth c cells slots Q A g sh t (F0 m pc ls (.ref x :: rest)) := fun H locs hP hD hS => lv_astore C.1 C.2.1 d h hn hl (fun ls' h' => k ls' h' H locs hP hD hS)
theorem v_iinc (C : Cx p s m args c A g cc own ws nL) {i k0 : Nat} {n : Int} {x v : Int32} {lv lv' : List (Nat × Value)} (d : decode cc pc = .ok (.iinc i n, 3)) (h : lv_has ls nL lv) (hk : lv[k0]? = some (i, .int x)) (hv : x + Int32.ofInt n = v) (hn : i < nL) (hl : (i, Value.int v) :: lv.filter (fun q => !(q.1 == i) && !(q.1 + 1 == i && q.2.category == 2)) = lv') (k : ∀ ls' : Array Slot, lv_has ls' nL lv' → VW p l e R s m args below meth c cells slots Q A g sh t (F0 m (pc + 3) ls' rest)) : VW p l e R s m args below meth c cells slots Q A g sh t (F0 m pc ls rest) := fun H locs hP hD hS => lv_iinc C.1 C.2.1 d h hk hv hn hl (fun ls' h' => k ls' h' H locs hP hD hS)
theorem v_iadd (C : Cx p s m args c A g cc own ws nL) {x y : Int32} (d : decode cc pc = .ok (.iadd, 1)) (k : VW p l e R s m args below meth c cells slots Q A g sh t (F0 m (pc + 1) ls (.int (x + y) :: rest))) : VW p l e R s m args below meth c cells slots Q A g sh t (F0 m pc ls (.int y :: .int x :: rest)) := VW.of (fun _ _ => lv_iadd C.1 C.2.1 d) k
theorem v_isub (C : Cx p s m args c A g cc own ws nL) {x y : Int32} (d : decode cc pc = .ok (.isub, 1)) (k : VW p l e R s m args below meth c cells slots Q A g sh t (F0 m (pc + 1) ls (.int (x - y) :: rest))) : VW p l e R s m args below meth c cells slots Q A g sh t (F0 m pc ls (.int y :: .int x :: rest)) := VW.of (fun _ _ => lv_isub C.1 C.2.1 d) k
theorem v_imul (C : Cx p s m args c A g cc own ws nL) {x y : Int32} (d : decode cc pc = .ok (.imul, 1)) (k : VW p l e R s m args below meth c cells slots Q A g sh t (F0 m (pc + 1) ls (.int (x * y) :: rest))) : VW p l e R s m args below meth c cells slots Q A g sh t (F0 m pc ls (.int y :: .int x :: rest)) := VW.of (fun _ _ => lv_imul C.1 C.2.1 d) k
theorem v_iand (C : Cx p s m args c A g cc own ws nL) {x y : Int32} (d : decode cc pc = .ok (.iand, 1)) (k : VW p l e R s m args below meth c cells slots Q A g sh t (F0 m (pc + 1) ls (.int (x &&& y) :: rest))) : VW p l e R s m args below meth c cells slots Q A g sh t (F0 m pc ls (.int y :: .int x :: rest)) := VW.of (fun _ _ => lv_iand C.1 C.2.1 d) k
theorem v_ior (C : Cx p s m args c A g cc own ws nL) {x y : Int32} (d : decode cc pc = .ok (.ior, 1)) (k : VW p l e R s m args below meth c cells slots Q A g sh t (F0 m (pc + 1) ls (.int (x ||| y) :: rest))) : VW p l e R s m args below meth c cells slots Q A g sh t (F0 m pc ls (.int y :: .int x :: rest)) := VW.of (fun _ _ => lv_ior C.1 C.2.1 d) k
theorem v_ixor (C : Cx p s m args c A g cc own ws nL) {x y : Int32} (d : decode cc pc = .ok (.ixor, 1)) (k : VW p l e R s m args below meth c cells slots Q A g sh t (F0 m (pc + 1) ls (.int (x ^^^ y) :: rest))) : VW p l e R s m args below meth c cells slots Q A g sh t (F0 m pc ls (.int y :: .int x :: rest)) := VW.of (fun _ _ => lv_ixor C.1 C.2.1 d) k
theorem v_ishl (C : Cx p s m args c A g cc own ws nL) {x y : Int32} (d : decode cc pc = .ok (.ishl, 1)) (k : VW p l e R s m args below meth c cells slots Q A g sh t (F0 m (pc + 1) ls (.int (x <<< (y &&& 31)) :: rest))) : VW p l e R s m args below meth c cells slots Q A g sh t (F0 m pc ls (.int y :: .int x :: rest)) := VW.of (fun _ _ => lv_ishl C.1 C.2.1 d) k
theorem v_ishr (C : Cx p s m args c A g cc own ws nL) {x y : Int32} (d : decode cc pc = .ok (.ishr, 1)) (k : VW p l e R s m args below meth c cells slots Q A g sh t (F0 m (pc + 1) ls (.int (x >>> (y &&& 31)) :: rest))) : VW p l e R s m args below meth c cells slots Q A g sh t (F0 m pc ls (.int y :: .int x :: rest)) := VW.of (fun _ _ => lv_ishr C.1 C.2.1 d) k
theorem v_iushr (C : Cx p s m args c A g cc own ws nL) {x y v : Int32} (d : decode cc pc = .ok (.iushr, 1)) (hv : (x.toUInt32 >>> (y.toUInt32 &&& Int32.toUInt32 31)).toInt32 = v) (k : VW p l e R s m args below meth c cells slots Q A g sh t (F0 m (pc + 1) ls (.int v :: rest))) : VW p l e R s m args below meth c cells slots Q A g sh t (F0 m pc ls (.int y :: .int x :: rest)) := VW.of (fun _ _ => lv_iushr C.1 C.2.1 d hv) k
theorem v_idiv (C : Cx p s m args c A g cc own ws nL) {x y : Int32} (d : decode cc pc = .ok (.idiv, 1)) (hne : ¬ y = 0) (k : VW p l e R s m args below meth c cells slots Q A g sh t (F0 m (pc + 1) ls (.int (x / y) :: rest))) : VW p l e R s m args below meth c cells slots Q A g sh t (F0 m pc ls (.int y :: .int x :: rest)) := VW.of (fun _ _ => lv_idiv C.1 C.2.1 d hne) k
theorem v_irem (C : Cx p s m args c A g cc own ws nL) {x y : Int32} (d : decode cc pc = .ok (.irem, 1)) (hne : ¬ y = 0) (k : VW p l e R s m args below meth c cells slots Q A g sh t (F0 m (pc + 1) ls (.int (x - x / y * y) :: rest))) : VW p l e R s m args below meth c cells slots Q A g sh t (F0 m pc ls (.int y :: .int x :: rest)) := VW.of (fun _ _ => lv_irem C.1 C.2.1 d hne) k
theorem v_dup (C : Cx p s m args c A g cc own ws nL) {va : Value} (d : decode cc pc = .ok (.dup, 1)) (hva : va.category = 1) (k : VW p l e R s m args below meth c cells slots Q A g sh t (F0 m (pc + 1) ls (va :: va :: rest))) : VW p l e R s m args below meth c cells slots Q A g sh t (F0 m pc ls (va :: rest)) := VW.of (fun _ _ => lv_dup C.1 C.2.1 d hva) k
theorem v_dup2 (C : Cx p s m args c A g cc own ws nL) {va vb : Value} (d : decode cc pc = .ok (.dup2, 1)) (hva : va.category = 1) (hvb : vb.category = 1) (k : VW p l e R s m args below meth c cells slots Q A g sh t (F0 m (pc + 1) ls (va :: vb :: va :: vb :: rest))) : VW p l e R s m args below meth c cells slots Q A g sh t (F0 m pc ls (va :: vb :: rest)) := VW.of (fun _ _ => lv_dup2_11 C.1 C.2.1 d hva hvb) k
theorem v_dup_x1 (C : Cx p s m args c A g cc own ws nL) {va vb : Value} (d : decode cc pc = .ok (.dup_x1, 1)) (hva : va.category = 1) (hvb : vb.category = 1) (k : VW p l e R s m args below meth c cells slots Q A g sh t (F0 m (pc + 1) ls (va :: vb :: va :: rest))) : VW p l e R s m args below meth c cells slots Q A g sh t (F0 m pc ls (va :: vb :: rest)) := VW.of (fun _ _ => lv_dup_x1 C.1 C.2.1 d hva hvb) k
theorem v_pop (C : Cx p s m args c A g cc own ws nL) {va : Value} (d : decode cc pc = .ok (.pop, 1)) (hva : va.category = 1) (k : VW p l e R s m args below meth c cells slots Q A g sh t (F0 m (pc + 1) ls rest)) : VW p l e R s m args below meth c cells slots Q A g sh t (F0 m pc ls (va :: rest)) := VW.of (fun _ _ => lv_pop C.1 C.2.1 d hva) k
theorem v_goto (C : Cx p s m args c A g cc own ws nL) {off : Int} {tgt : Nat} (d : decode cc pc = .ok (.goto off, 3)) (ht : (pc : Int) + off = (tgt : Int)) (k : VW p l e R s m args below meth c cells slots Q A g sh t (F0 m tgt ls rest)) : VW p l e R s m args below meth c cells slots Q A g sh t (F0 m pc ls rest) := VW.of (fun _ _ => lv_goto C.1 C.2.1 d ht) k
theorem v_ldcw (C : Cx p s m args c A g cc own ws nL) {index : Nat} {v : Int32} (hc : (Jvm.Cond.constant own index v).before args s = true) (d : decode cc pc = .ok (.ldc_w index, 3)) (k : VW p l e R s m args below meth c cells slots Q A g sh t (F0 m (pc + 3) ls (.int v :: rest))) : VW p l e R s m args below meth c cells slots Q A g sh t (F0 m pc ls rest) := VW.of (fun _ _ => lv_ldcw C.1 C.2.1 C.2.2.2.1 hc d) k
theorem v_ldc (C : Cx p s m args c A g cc own ws nL) {index : Nat} {v : Int32} (hc : (Jvm.Cond.constant own index v).before args s = true) (d : decode cc pc = .ok (.ldc index, 2)) (k : VW p l e R s m args below meth c cells slots Q A g sh t (F0 m (pc + 2) ls (.int v :: rest))) : VW p l e R s m args below meth c cells slots Q A g sh t (F0 m pc ls rest) := VW.of (fun _ _ => lv_ldc C.1 C.2.1 C.2.2.2.1 hc d) k
theorem v_if_eq (C : Cx p s m args c A g cc own ws nL) {x : Int32} {off : Int} {tgt : Nat} (d : decode cc pc = .ok (.ifCond .eq off, 3)) (ht : (pc : Int) + off = (tgt : Int)) (kt : x = 0 → VW p l e R s m args below meth c cells slots Q A g sh t (F0 m tgt ls rest)) (kf : ¬ x = 0 → VW p l e R s m args below meth c cells slots Q A g sh t (F0 m (pc + 3) ls rest)) : VW p l e R s m args below meth c cells slots Q A g sh t (F0 m pc ls (.int x :: rest)) := fun H locs hP hD hS => lv_if_eq C.1 C.2.1 d ht (fun q => kt q H locs hP hD hS) (fun q => kf q H locs hP hD hS)
theorem v_if_ne (C : Cx p s m args c A g cc own ws nL) {x : Int32} {off : Int} {tgt : Nat} (d : decode cc pc = .ok (.ifCond .ne off, 3)) (ht : (pc : Int) + off = (tgt : Int)) (kt : ¬ x = 0 → VW p l e R s m args below meth c cells slots Q A g sh t (F0 m tgt ls rest)) (kf : x = 0 → VW p l e R s m args below meth c cells slots Q A g sh t (F0 m (pc + 3) ls rest)) : VW p l e R s m args below meth c cells slots Q A g sh t (F0 m pc ls (.int x :: rest)) := fun H locs hP hD hS => lv_if_ne C.1 C.2.1 d ht (fun q => kt q H locs hP hD hS) (fun q => kf q H locs hP hD hS)
theorem v_if_lt (C : Cx p s m args c A g cc own ws nL) {x : Int32} {off : Int} {tgt : Nat} (d : decode cc pc = .ok (.ifCond .lt off, 3)) (ht : (pc : Int) + off = (tgt : Int)) (kt : x < 0 → VW p l e R s m args below meth c cells slots Q A g sh t (F0 m tgt ls rest)) (kf : ¬ x < 0 → VW p l e R s m args below meth c cells slots Q A g sh t (F0 m (pc + 3) ls rest)) : VW p l e R s m args below meth c cells slots Q A g sh t (F0 m pc ls (.int x :: rest)) := fun H locs hP hD hS => lv_if_lt C.1 C.2.1 d ht (fun q => kt q H locs hP hD hS) (fun q => kf q H locs hP hD hS)
theorem v_if_ge (C : Cx p s m args c A g cc own ws nL) {x : Int32} {off : Int} {tgt : Nat} (d : decode cc pc = .ok (.ifCond .ge off, 3)) (ht : (pc : Int) + off = (tgt : Int)) (kt : 0 ≤ x → VW p l e R s m args below meth c cells slots Q A g sh t (F0 m tgt ls rest)) (kf : ¬ 0 ≤ x → VW p l e R s m args below meth c cells slots Q A g sh t (F0 m (pc + 3) ls rest)) : VW p l e R s m args below meth c cells slots Q A g sh t (F0 m pc ls (.int x :: rest)) := fun H locs hP hD hS => lv_if_ge C.1 C.2.1 d ht (fun q => kt q H locs hP hD hS) (fun q => kf q H locs hP hD hS)
theorem v_if_gt (C : Cx p s m args c A g cc own ws nL) {x : Int32} {off : Int} {tgt : Nat} (d : decode cc pc = .ok (.ifCond .gt off, 3)) (ht : (pc : Int) + off = (tgt : Int)) (kt : 0 < x → VW p l e R s m args below meth c cells slots Q A g sh t (F0 m tgt ls rest)) (kf : ¬ 0 < x → VW p l e R s m args below meth c cells slots Q A g sh t (F0 m (pc + 3) ls rest)) : VW p l e R s m args below meth c cells slots Q A g sh t (F0 m pc ls (.int x :: rest)) := fun H locs hP hD hS => lv_if_gt C.1 C.2.1 d ht (fun q => kt q H locs hP hD hS) (fun q => kf q H locs hP hD hS)
theorem v_if_le (C : Cx p s m args c A g cc own ws nL) {x : Int32} {off : Int} {tgt : Nat} (d : decode cc pc = .ok (.ifCond .le off, 3)) (ht : (pc : Int) + off = (tgt : Int)) (kt : x ≤ 0 → VW p l e R s m args below meth c cells slots Q A g sh t (F0 m tgt ls rest)) (kf : ¬ x ≤ 0 → VW p l e R s m args below meth c cells slots Q A g sh t (F0 m (pc + 3) ls rest)) : VW p l e R s m args below meth c cells slots Q A g sh t (F0 m pc ls (.int x :: rest)) := fun H locs hP hD hS => lv_if_le C.1 C.2.1 d ht (fun q => kt q H locs hP hD hS) (fun q => kf q H locs hP hD hS)
theorem v_icmp_eq (C : Cx p s m args c A g cc own ws nL) {x y : Int32} {off : Int} {tgt : Nat} (d : decode cc pc = .ok (.if_icmp .eq off, 3)) (ht : (pc : Int) + off = (tgt : Int)) (kt : x = y → VW p l e R s m args below meth c cells slots Q A g sh t (F0 m tgt ls rest)) (kf : ¬ x = y → VW p l e R s m args below meth c cells slots Q A g sh t (F0 m (pc + 3) ls rest)) : VW p l e R s m args below meth c cells slots Q A g sh t (F0 m pc ls (.int y :: .int x :: rest)) := fun H locs hP hD hS => lv_icmp_eq C.1 C.2.1 d ht (fun q => kt q H locs hP hD hS) (fun q => kf q H locs hP hD hS)
theorem v_icmp_ne (C : Cx p s m args c A g cc own ws nL) {x y : Int32} {off : Int} {tgt : Nat} (d : decode cc pc = .ok (.if_icmp .ne off, 3)) (ht : (pc : Int) + off = (tgt : Int)) (kt : ¬ x = y → VW p l e R s m args below meth c cells slots Q A g sh t (F0 m tgt ls rest)) (kf : x = y → VW p l e R s m args below meth c cells slots Q A g sh t (F0 m (pc + 3) ls rest)) : VW p l e R s m args below meth c cells slots Q A g sh t (F0 m pc ls (.int y :: .int x :: rest)) := fun H locs hP hD hS => lv_icmp_ne C.1 C.2.1 d ht (fun q => kt q H locs hP hD hS) (fun q => kf q H locs hP hD hS)
theorem v_icmp_lt (C : Cx p s m args c A g cc own ws nL) {x y : Int32} {off : Int} {tgt : Nat} (d : decode cc pc = .ok (.if_icmp .lt off, 3)) (ht : (pc : Int) + off = (tgt : Int)) (kt : x < y → VW p l e R s m args below meth c cells slots Q A g sh t (F0 m tgt ls rest)) (kf : ¬ x < y → VW p l e R s m args below meth c cells slots Q A g sh t (F0 m (pc + 3) ls rest)) : VW p l e R s m args below meth c cells slots Q A g sh t (F0 m pc ls (.int y :: .int x :: rest)) := fun H locs hP hD hS => lv_icmp_lt C.1 C.2.1 d ht (fun q => kt q H locs hP hD hS) (fun q => kf q H locs hP hD hS)
theorem v_icmp_ge (C : Cx p s m args c A g cc own ws nL) {x y : Int32} {off : Int} {tgt : Nat} (d : decode cc pc = .ok (.if_icmp .ge off, 3)) (ht : (pc : Int) + off = (tgt : Int)) (kt : y ≤ x → VW p l e R s m args below meth c cells slots Q A g sh t (F0 m tgt ls rest)) (kf : ¬ y ≤ x → VW p l e R s m args below meth c cells slots Q A g sh t (F0 m (pc + 3) ls rest)) : VW p l e R s m args below meth c cells slots Q A g sh t (F0 m pc ls (.int y :: .int x :: rest)) := fun H locs hP hD hS => lv_icmp_ge C.1 C.2.1 d ht (fun q => kt q H locs hP hD hS) (fun q => kf q H locs hP hD hS)
theorem v_icmp_gt (C : Cx p s m args c A g cc own ws nL) {x y : Int32} {off : Int} {tgt : Nat} (d : decode cc pc = .ok (.if_icmp .gt off, 3)) (ht : (pc : Int) + off = (tgt : Int)) (kt : y < x → VW p l e R s m args below meth c cells slots Q A g sh t (F0 m tgt ls rest)) (kf : ¬ y < x → VW p l e R s m args below meth c cells slots Q A g sh t (F0 m (pc + 3) ls rest)) : VW p l e R s m args below meth c cells slots Q A g sh t (F0 m pc ls (.int y :: .int x :: rest)) := fun H locs hP hD hS => lv_icmp_gt C.1 C.2.1 d ht (fun q => kt q H locs hP hD hS) (fun q => kf q H locs hP hD hS)
theorem v_icmp_le (C : Cx p s m args c A g cc own ws nL) {x y : Int32} {off : Int} {tgt : Nat} (d : decode cc pc = .ok (.if_icmp .le off, 3)) (ht : (pc : Int) + off = (tgt : Int)) (kt : x ≤ y → VW p l e R s m args below meth c cells slots Q A g sh t (F0 m tgt ls rest)) (kf : ¬ x ≤ y → VW p l e R s m args below meth c cells slots Q A g sh t (F0 m (pc + 3) ls rest)) : VW p l e R s m args below meth c cells slots Q A g sh t (F0 m pc ls (.int y :: .int x :: rest)) := fun H locs hP hD hS => lv_icmp_le C.1 C.2.1 d ht (fun q => kt q H locs hP hD hS) (fun q => kf q H locs hP hD hS)
theorem v_tabIn (C : Cx p s m args c A g cc own ws nL) {dflt lo hi : Int} {offs : Array Int} {len : Nat} {x v : Int32} {off : Int} {tgt : Nat} (d : decode cc pc = .ok (.tableswitch dflt lo hi offs, len)) (hx : x = v) (h1 : ¬ v.toInt < lo) (h2 : ¬ hi < v.toInt) (ho : offs[(v.toInt - lo).toNat]? = some off) (ht : (pc : Int) + off = (tgt : Int)) (k : VW p l e R s m args below meth c cells slots Q A g sh t (F0 m tgt ls rest)) : VW p l e R s m args below meth c cells slots Q A g sh t (F0 m pc ls (.int x :: rest)) := VW.of (fun _ _ => lv_tableIn C.1 C.2.1 d (by rw [hx]; exact h1) (by rw [hx]; exact h2) (by rw [hx]; exact ho) ht) k
theorem v_tabOut (C : Cx p s m args c A g cc own ws nL) {dflt lo hi : Int} {offs : Array Int} {len : Nat} {x : Int32} {tgt : Nat} (d : decode cc pc = .ok (.tableswitch dflt lo hi offs, len)) (h : x.toInt < lo ∨ hi < x.toInt) (ht : (pc : Int) + dflt = (tgt : Int)) (k : VW p l e R s m args below meth c cells slots Q A g sh t (F0 m tgt ls rest)) : VW p l e R s m args below meth c cells slots Q A g sh t (F0 m pc ls (.int x :: rest)) := VW.of (fun _ _ => lv_tableOut C.1 C.2.1 d h ht) k
theorem v_look (C : Cx p s m args c A g cc own ws nL) {dflt : Int} {ps : Array (Int × Int)} {len : Nat} {x : Int32} {off : Int} {tgt : Nat} (d : decode cc pc = .ok (.lookupswitch dflt ps, len)) (hp : (ps.toList.zip (ps.toList.drop 1)).all (fun (a, next) => a.1 < next.1) = true) (ho : Op.lookupswitch.offset ps.toList dflt x.toInt = off) (ht : (pc : Int) + off = (tgt : Int)) (k : VW p l e R s m args below meth c cells slots Q A g sh t (F0 m tgt ls rest)) : VW p l e R s m args below meth c cells slots Q A g sh t (F0 m pc ls (.int x :: rest)) := VW.of (fun _ _ => lv_lookup C.1 C.2.1 d hp ho ht) k
theorem v_min (C : Cx p s m args c A g cc own ws nL) {index : Nat} (hlink : (Cond.methodLink own index Lib.Math.min.name).before args s = true) (hstat : (Cond.static Lib.Math.min.name).before args s = true) (hini : (Cond.initialized "java/lang/Math").before args s = true) (hcode : (Cond.code Lib.Math.min.name Lib.Math.min.code 2 (some .int)).before args s = true) (hls : ls.size = nL) (hfr : 1 ≤ R.frames) (hlo : (rest.map fun v => v.category).sum + 13 ≤ R.locals) (hcs : cells ≤ R.cells ∧ slots ≤ R.slots) {x y : Int32} (d : decode cc pc = .ok (.invokestatic index, 3)) (k : VW p l e R s m args below meth c cells slots Q A g sh t (F0 m (pc + 3) ls (.int (if y < x then y else x) :: rest))) : VW p l e R s m args below meth c cells slots Q A g sh t (F0 m pc ls (.int y :: .int x :: rest)) := VW.of (fun _ _ => va_mmin C.1 C.2.1 (C.2.2.1.trans hls.symm) C.2.2.2.1 hlink hstat hini hcode hfr hlo hcs.1 hcs.2 d) k
theorem v_getI (C : Cx p s m args c A g cc own ws nL) {CC : String} {T : u_T} {N ci i j index : Nat} {fs : List (Option Nat)} {rf nm ds : String} {fb : Bool} {a : Nat} (hin : ∀ w ∈ u_ws CC T N, w ∈ ws) (hk : sh[i]? = some (.inr (.inr (ci, fs)))) (ha : g.2.1 i = a) (hc : vwCl[ci]? = some (CC, T, N)) (hT : T j = (rf, nm, ds, fb)) (hjN : j < N) (hj : fs[j]? = some none) (hlink : (Cond.fieldLink own index rf nm ds).before args s = true) (d : decode cc pc = .ok (.getfield index, 3)) (k : VW p l e R s m args below meth c cells slots Q A g sh t (F0 m (pc + 3) ls (.int (t i j) :: rest))) : VW p l e R s m args below meth c cells slots Q A g sh t (F0 m pc ls (.ref a :: rest)) := by
  intro H locs hP hD hS
  subst ha
  exact va_get C.1 C.2.1 C.2.2.2.2.1 hin C.2.2.2.1 C.2.2.2.2.2.1 hP i (ct_w_at hk) hc j hjN (by rw [hT]; exact hlink) (by rw [hT]; exact fun _ h => h) (ct_fs_i hj) d (k H locs hP hD hS)
theorem v_getR (C : Cx p s m args c A g cc own ws nL) {CC : String} {T : u_T} {N ci i j index r : Nat} {fs : List (Option Nat)} {rf nm ds : String} {fb : Bool} {a : Nat} (hin : ∀ w ∈ u_ws CC T N, w ∈ ws) (hk : sh[i]? = some (.inr (.inr (ci, fs)))) (ha : g.2.1 i = a) (hc : vwCl[ci]? = some (CC, T, N)) (hT : T j = (rf, nm, ds, fb)) (hjN : j < N) (hj : fs[j]? = some (some r)) (hlink : (Cond.fieldLink own index rf nm ds).before args s = true) (d : decode cc pc = .ok (.getfield index, 3)) (k : VW p l e R s m args below meth c cells slots Q A g sh t (F0 m (pc + 3) ls (.ref (g.2.1 r) :: rest))) : VW p l e R s m args below meth c cells slots Q A g sh t (F0 m pc ls (.ref a :: rest)) := by
  intro H locs hP hD hS
  subst ha
  exact va_get C.1 C.2.1 C.2.2.2.2.1 hin C.2.2.2.1 C.2.2.2.2.2.1 hP i (ct_w_at hk) hc j hjN (by rw [hT]; exact hlink) (by rw [hT]; exact fun _ h => h) (ct_fs_r hj) d (k H locs hP hD hS)
theorem v_put (C : Cx p s m args c A g cc own ws nL) {CC : String} {T : u_T} {N ci i j index : Nat} {fs : List (Option Nat)} {rf nm ds : String} {a : Nat} {ty : FieldType} {v : Int32} (hin : ∀ w ∈ u_ws CC T N, w ∈ ws) (ty0 : Nat → FieldType) (hty : ∀ k, k < N → parseFieldDescriptor (T k).2.2.1 = some (ty0 k)) (hnm : ∀ a, a < N → ∀ b, b < N → a ≠ b → (T a).2.1 ≠ (T b).2.1) (hk : sh[i]? = some (.inr (.inr (ci, fs)))) (ha : g.2.1 i = a) (hc : vwCl[ci]? = some (CC, T, N)) (hT : T j = (rf, nm, ds, false)) (hjN : j < N) (hj : fs[j]? = some none) (hlink : (Cond.fieldLink own index rf nm ds).before args s = true) (hd : ty0 j = ty) (hn : narrow ty (.int v) = .int v) (hf : fits ty (.int v) = true) (d : decode cc pc = .ok (.putfield index, 3)) (k : VW p l e R s m args below meth c cells slots Q A g sh (us t i j v) (F0 m (pc + 3) ls rest)) : VW p l e R s m args below meth c cells slots Q A g sh t (F0 m pc ls (.int v :: .ref a :: rest)) := by
  intro H locs hP hD hS
  subst ha
  have he : ((List.range fs.length).map (ct_fv g (t i) fs)).set j (.int v) = (List.range fs.length).map (ct_fv g (upd (t i) j v) fs) := ct_fs_set hj
  have hw : (ct_w g sh t).set i (g.2.1 i, .inr (ci, ((List.range fs.length).map (ct_fv g (t i) fs)).set j (.int v))) = ct_w g sh (us t i j v) := by
    rw [he]
    exact ct_w_set (f := upd (t i) j v) hk
  refine va_put C.1 C.2.1 C.2.2.2.2.1 hin ty0 hty hnm C.2.2.2.1 C.2.2.2.2.2.1 hP hD hS i (ct_w_at hk) hc j hjN (by rw [hT]; exact hlink) (by rw [hT]; exact fun _ h => h) (by rw [hT]) (by rw [hty j hjN, hd]) hn hf (by rw [ct_fs_len]; exact (List.getElem?_eq_some_iff.mp hj).1) d (fun H1 locs1 hP1 hD1 hS1 => ?_)
  rw [hw] at hP1 hD1
  exact k H1 locs1 hP1 hD1 hS1
theorem v_iald (C : Cx p s m args c A g cc own ws nL) {i n : Nat} {a : Nat} {x : Int32} (hk : sh[i]? = some (.inl (0, n))) (ha : g.2.1 i = a) (hx : vp_in x n) (d : decode cc pc = .ok (.iaload, 1)) (k : VW p l e R s m args below meth c cells slots Q A g sh t (F0 m (pc + 1) ls (.int (t i (ix x)) :: rest))) : VW p l e R s m args below meth c cells slots Q A g sh t (F0 m pc ls (.int x :: .ref a :: rest)) := by
  intro H locs hP hD hS
  subst ha
  exact va_iald C.1 C.2.1 C.2.2.2.2.2.1 hP i 0 (ct_w_at hk) rfl hx d (k H locs hP hD hS)
theorem v_zald (C : Cx p s m args c A g cc own ws nL) {i n : Nat} {a : Nat} {x : Int32} (hk : sh[i]? = some (.inl (1, n))) (ha : g.2.1 i = a) (hx : vp_in x n) (d : decode cc pc = .ok (.baload, 1)) (k : VW p l e R s m args below meth c cells slots Q A g sh t (F0 m (pc + 1) ls (.int (t i (ix x)) :: rest))) : VW p l e R s m args below meth c cells slots Q A g sh t (F0 m pc ls (.int x :: .ref a :: rest)) := by
  intro H locs hP hD hS
  subst ha
  exact va_zald C.1 C.2.1 C.2.2.2.2.2.1 hP i 1 (ct_w_at hk) rfl hx d (k H locs hP hD hS)
theorem v_iast (C : Cx p s m args c A g cc own ws nL) {i n : Nat} {a : Nat} {x y : Int32} (hk : sh[i]? = some (.inl (0, n))) (ha : g.2.1 i = a) (hx : vp_in x n) (d : decode cc pc = .ok (.iastore, 1)) (k : VW p l e R s m args below meth c cells slots Q A g sh (us t i (ix x) y) (F0 m (pc + 1) ls rest)) : VW p l e R s m args below meth c cells slots Q A g sh t (F0 m pc ls (.int y :: .int x :: .ref a :: rest)) := by
  intro H locs hP hD hS
  subst ha
  have hw : (ct_w g sh t).set i (g.2.1 i, .inl (g.2.2 0, n, .inl (upd (t i) (ix x) y))) = ct_w g sh (us t i (ix x) y) := ct_w_set (f := upd (t i) (ix x) y) hk
  refine va_iast C.1 C.2.1 C.2.2.2.2.2.1 hP hD hS i 0 (ct_w_at hk) rfl hx d (fun H1 locs1 hP1 hD1 hS1 => ?_)
  rw [hw] at hP1 hD1
  exact k H1 locs1 hP1 hD1 hS1
theorem v_zast (C : Cx p s m args c A g cc own ws nL) {i n : Nat} {a : Nat} {x y z : Int32} (hk : sh[i]? = some (.inl (1, n))) (ha : g.2.1 i = a) (hx : vp_in x n) (hz : vp_nar .boolean y = z) (d : decode cc pc = .ok (.bastore, 1)) (k : VW p l e R s m args below meth c cells slots Q A g sh (us t i (ix x) z) (F0 m (pc + 1) ls rest)) : VW p l e R s m args below meth c cells slots Q A g sh t (F0 m pc ls (.int y :: .int x :: .ref a :: rest)) := by
  intro H locs hP hD hS
  subst ha
  subst hz
  have hw : (ct_w g sh t).set i (g.2.1 i, .inl (g.2.2 1, n, .inl (upd (t i) (ix x) (vp_nar .boolean y)))) = ct_w g sh (us t i (ix x) (vp_nar .boolean y)) := ct_w_set (f := upd (t i) (ix x) (vp_nar .boolean y)) hk
  refine va_zast C.1 C.2.1 C.2.2.2.2.2.1 hP hD hS i 1 (ct_w_at hk) rfl hx d (fun H1 locs1 hP1 hD1 hS1 => ?_)
  rw [hw] at hP1 hD1
  exact k H1 locs1 hP1 hD1 hS1
theorem v_aald (C : Cx p s m args c A g cc own ws nL) {i ty : Nat} {l0 : List Nat} {CC : String} {a r : Nat} {x : Int32} (hk : sh[i]? = some (.inr (.inl (ty, l0)))) (ha : g.2.1 i = a) (hty : (ct_ty g)[ty]? = some (g.2.2 ty, .object CC)) (hx : vp_in x l0.length) (hr : l0[ix x]? = some r) (d : decode cc pc = .ok (.aaload, 1)) (k : VW p l e R s m args below meth c cells slots Q A g sh t (F0 m (pc + 1) ls (.ref (g.2.1 r) :: rest))) : VW p l e R s m args below meth c cells slots Q A g sh t (F0 m pc ls (.int x :: .ref a :: rest)) := by
  intro H locs hP hD hS
  subst ha
  refine va_aldq C.1 C.2.1 C.2.2.2.2.2.1 hP i ty (ct_w_at hk) hty hx d ?_
  show W _ _ _ _ _ _ _ _ _ _ _ _ _ _ _ (F0 m (pc + 1) ls (va_rf ((l0[ix x]?).map g.2.1) :: rest))
  rw [hr]
  exact k H locs hP hD hS
theorem v_calli (C : Cx p s m args c A g cc own ws nL) {y : MethodName} {ws' : List Cond} {rm : Room} {As : List Value} {r : Int32} {u : ct_St} {bytes : ByteArray} {maxL n index : Nat} {ret : Option FieldType} {st : List Value} {i ci b : Nat} {fs : List (Option Nat)} {q : vw_C} {CC : String} (hM : MI l g sh y ws' rm (.ref b :: As) t r u) (cw : CallW R s args own CC index y bytes maxL ret ws' rm 0 0 n) (hk : sh[i]? = some (.inr (.inr (ci, fs)))) (hb : g.2.1 i = b) (hc : vwCl[ci]? = some q) (hq : q.1 = CC) (hn : As.length = n) (hls : ls.size = nL) (hst : st = As.reverse ++ .ref b :: rest) (hcat : (rest.map fun v => v.category).sum ≤ 8) (d : decode cc pc = .ok (.invokevirtual index, 3)) (hf : cells ≤ R.cells ∧ slots ≤ R.slots) (k : VW p l e R s m args below meth c cells slots Q A g sh u (F0 m (pc + 3) ls (.int r :: rest))) : VW p l e R s m args below meth c cells slots Q A g sh t (F0 m pc ls st) := by
  intro H locs hP hD hS
  subst hb
  have hFc : ∀ q, va_A (ct_w g sh t) H.size q → A q := by
    intro q h
    rcases h with ⟨k0, e0, h⟩ | h
    · exact hD.2 k0 (q, e0) h
    · exact C.2.2.2.2.2.2.1 q (Nat.le_trans hS.1 h)
  refine va_calli (va_runV (As := As) (rest := rest) C.fix (hM H.size) cw ⟨ct_blind, hq ▸ va_recv C.2.2.2.2.2.1 hP hc (ct_w_at (by exact hk)), fun U hU hW => ⟨rfl, by rw [hU], by rw [hU]; exact hP, va_K.moved hW.alike C.2.2.2.2.2.1, hD.weaken (fun _ _ _ _ => trivial), va_Nw.warmM hW C.2.2.2.2.2.2.2⟩⟩ rfl hn hls hst (lv_room hcat) d hf) hS (fun q _ h => hFc q h) hFc (fun r1 v T H1 locs1 ht hvm hw hB hz1 hk1 hS1 => ?_)
  obtain ⟨rfl, rfl⟩ := hw
  obtain ⟨hP1, hD1⟩ := hB
  rw [ht] at hP1
  exact k H1 locs1 hP1 (hD1.weaken (fun k0 q0 _ h => hFc q0.1 h)) hS1
theorem v_callv (C : Cx p s m args c A g cc own ws nL) {y : MethodName} {ws' : List Cond} {rm : Room} {As : List Value} {u : ct_St} {bytes : ByteArray} {maxL n index : Nat} {ret : Option FieldType} {st : List Value} {i ci b : Nat} {fs : List (Option Nat)} {q : vw_C} {CC : String} (hM : MV l g sh y ws' rm (.ref b :: As) t u) (cw : CallW R s args own CC index y bytes maxL ret ws' rm 0 0 n) (hk : sh[i]? = some (.inr (.inr (ci, fs)))) (hb : g.2.1 i = b) (hc : vwCl[ci]? = some q) (hq : q.1 = CC) (hn : As.length = n) (hls : ls.size = nL) (hst : st = As.reverse ++ .ref b :: rest) (hcat : (rest.map fun v => v.category).sum ≤ 8) (d : decode cc pc = .ok (.invokevirtual index, 3)) (hf : cells ≤ R.cells ∧ slots ≤ R.slots) (k : VW p l e R s m args below meth c cells slots Q A g sh u (F0 m (pc + 3) ls rest)) : VW p l e R s m args below meth c cells slots Q A g sh t (F0 m pc ls st) := by
  intro H locs hP hD hS
  subst hb
  have hFc : ∀ q, va_A (ct_w g sh t) H.size q → A q := by
    intro q h
    rcases h with ⟨k0, e0, h⟩ | h
    · exact hD.2 k0 (q, e0) h
    · exact C.2.2.2.2.2.2.1 q (Nat.le_trans hS.1 h)
  refine va_callv (va_runV (As := As) (rest := rest) C.fix (hM H.size) cw ⟨ct_blind, hq ▸ va_recv C.2.2.2.2.2.1 hP hc (ct_w_at (by exact hk)), fun U hU hW => ⟨rfl, by rw [hU], by rw [hU]; exact hP, va_K.moved hW.alike C.2.2.2.2.2.1, hD.weaken (fun _ _ _ _ => trivial), va_Nw.warmM hW C.2.2.2.2.2.2.2⟩⟩ rfl hn hls hst (lv_room hcat) d hf) hS (fun q _ h => hFc q h) hFc (fun v T H1 locs1 ht hvm hw hB hz1 hk1 hS1 => ?_)
  subst hw
  obtain ⟨hP1, hD1⟩ := hB
  rw [ht] at hP1
  exact k H1 locs1 hP1 (hD1.weaken (fun k0 q0 _ h => hFc q0.1 h)) hS1
theorem v_scalli (C : Cx p s m args c A g cc own ws nL) {y : MethodName} {ws' : List Cond} {rm : Room} {As : List Value} {r : Int32} {u : ct_St} {bytes : ByteArray} {maxL n index : Nat} {ret : Option FieldType} {st : List Value} (hM : MI l g sh y ws' rm As t r u) (cw : CallB R s args own index y bytes maxL ret ws' rm 0 0 n ∧ (Cond.static y).before args s = true) (hn : As.length = n) (hls : ls.size = nL) (hst : st = As.reverse ++ rest) (hcat : (rest.map fun v => v.category).sum ≤ 8) (d : decode cc pc = .ok (.invokestatic index, 3)) (hf : cells ≤ R.cells ∧ slots ≤ R.slots) (k : VW p l e R s m args below meth c cells slots Q A g sh u (F0 m (pc + 3) ls (.int r :: rest))) : VW p l e R s m args below meth c cells slots Q A g sh t (F0 m pc ls st) := by
  intro H locs hP hD hS
  have hFc : ∀ q, va_A (ct_w g sh t) H.size q → A q := by
    intro q h
    rcases h with ⟨k0, e0, h⟩ | h
    · exact hD.2 k0 (q, e0) h
    · exact C.2.2.2.2.2.2.1 q (Nat.le_trans hS.1 h)
  refine va_calli (va_runS (As := As) (rest := rest) C.fix (hM H.size) cw ⟨ct_blind, fun U hU hW => ⟨rfl, by rw [hU], by rw [hU]; exact hP, va_K.moved hW.alike C.2.2.2.2.2.1, hD.weaken (fun _ _ _ _ => trivial), va_Nw.warmM hW C.2.2.2.2.2.2.2⟩⟩ rfl hn hls hst (lv_room hcat) d hf) hS (fun q _ h => hFc q h) hFc (fun r1 v T H1 locs1 ht hvm hw hB hz1 hk1 hS1 => ?_)
  obtain ⟨rfl, rfl⟩ := hw
  obtain ⟨hP1, hD1⟩ := hB
  rw [ht] at hP1
  exact k H1 locs1 hP1 (hD1.weaken (fun k0 q0 _ h => hFc q0.1 h)) hS1
theorem v_ncalli (C : Cx p s m args c A g cc own ws nL) {y : MethodName} {ws' : List Cond} {rm : Room} {As : List Value} {r : Int32} {u : ct_St} {bytes : ByteArray} {maxL n index : Nat} {ret : Option FieldType} {st : List Value} {host : String} (hM : MI l g sh y ws' rm As t r u) (cw : va_CN R s args own index y host bytes maxL ret ws' rm 0 0 n ∧ (Cond.static y).before args s = true ∧ True) (hn : As.length = n) (hls : ls.size = nL) (hst : st = As.reverse ++ rest) (hcat : (rest.map fun v => v.category).sum ≤ 8) (d : decode cc pc = .ok (.invokestatic index, 3)) (hf : cells ≤ R.cells ∧ slots ≤ R.slots) (k : VW p l e R s m args below meth c cells slots Q A g sh u (F0 m (pc + 3) ls (.int r :: rest))) : VW p l e R s m args below meth c cells slots Q A g sh t (F0 m pc ls st) := by
  intro H locs hP hD hS
  have hFc : ∀ q, va_A (ct_w g sh t) H.size q → A q := by
    intro q h
    rcases h with ⟨k0, e0, h⟩ | h
    · exact hD.2 k0 (q, e0) h
    · exact C.2.2.2.2.2.2.1 q (Nat.le_trans hS.1 h)
  refine va_calli (va_runSN (As := As) (rest := rest) C.fix (hM H.size) cw ⟨ct_blind, fun U hU hW => ⟨rfl, by rw [hU], by rw [hU]; exact hP, va_K.moved hW.alike C.2.2.2.2.2.1, hD.weaken (fun _ _ _ _ => trivial), va_Nw.warmM hW C.2.2.2.2.2.2.2⟩⟩ rfl hn hls hst (lv_room hcat) d hf) hS (fun q _ h => hFc q h) hFc (fun r1 v T H1 locs1 ht hvm hw hB hz1 hk1 hS1 => ?_)
  obtain ⟨rfl, rfl⟩ := hw
  obtain ⟨hP1, hD1⟩ := hB
  rw [ht] at hP1
  exact k H1 locs1 hP1 (hD1.weaken (fun k0 q0 _ h => hFc q0.1 h)) hS1
end CTV
theorem MI.of {l : Launch} {g : ct_G} {sh : List ct_K} {y : MethodName} {own : String} {ws ws' : List Cond} {rm : Room} {av : List Value} {cc : ByteArray} {maxL : Nat} {t u : ct_St} {r : Int32} (ho : y.cls = own) (hy : plainName y.cls = true) (hw : ws = Cond.code y cc maxL (some .int) :: ws') (hl : (lg_sl av).length ≤ maxL)
    (body : ∀ (p : Program) (e : Env) (s : State) (m : MethodId) (args : Array Value) (below : List Frame) (meth : Method) (c : Code) (A : Nat → Prop) (Q : State → Prop), Cx p s m args c A g cc own ws maxL → (∀ (pc : Nat) (ls : Array Slot) (x : Int32) (v : ct_St), x = r → v = u → decode cc pc = .ok (.ireturn, 1) → VW p l e rm s m args below meth c 0 0 Q A g sh v (F0 m pc ls [.int x])) → ∀ ls : Array Slot, lv_has ls maxL (lv_args 0 av) → VW p l e rm s m args below meth c 0 0 Q A g sh t (F0 m 0 ls [])) : MI l g sh y ws rm av t r u := by
  intro sz
  refine Met.ofW (cc := cc) (maxL := maxL) (ret := (some .int)) hy hw ?_
  intro p e s m args below meth c s₁ B hml hv
  obtain ⟨rfl, hsz, hP, hK, hD0, hnk⟩ := hv
  have hts := atoms_spec (ws := ws) B.pre
  have hown := findClass_of_methodNamed B.named
  rw [ho] at hown
  subst hsz
  have hl0 := lv_entry av (n := maxL) hl
  rw [lg_entry_eq]
  refine body p e s m _ below meth c (va_A (ct_w g sh t) s.heap.size) _ ⟨B.exec, B.bytes, hml, hown, hts, hK, fun q h => Or.inr h, hnk⟩ ?_ _ hl0 s.heap [] hP hD0.self va_S.rf
  intro pc ls x v hx hu hd H locs hP hD hS
  subst hx; subst hu
  exact W.iret B.exec B.bytes B.returns (fun T ht hW => ⟨⟨_, _, rfl, ⟨rfl, rfl⟩, by rw [ht]; exact hP, hD⟩, hS.F ht⟩) hS.2.2 hd (hlocks := B.notSynchronized)
theorem MZ.of {l : Launch} {g : ct_G} {sh : List ct_K} {y : MethodName} {own : String} {ws ws' : List Cond} {rm : Room} {av : List Value} {cc : ByteArray} {maxL : Nat} {t u : ct_St} {r : Int32} (ho : y.cls = own) (hy : plainName y.cls = true) (hw : ws = Cond.code y cc maxL (some .boolean) :: ws') (hl : (lg_sl av).length ≤ maxL)
    (body : ∀ (p : Program) (e : Env) (s : State) (m : MethodId) (args : Array Value) (below : List Frame) (meth : Method) (c : Code) (A : Nat → Prop) (Q : State → Prop), Cx p s m args c A g cc own ws maxL → (∀ (pc : Nat) (ls : Array Slot) (x : Int32) (v : ct_St), x = r → v = u → narrow .boolean (.int x) = .int x → decode cc pc = .ok (.ireturn, 1) → VW p l e rm s m args below meth c 0 0 Q A g sh v (F0 m pc ls [.int x])) → ∀ ls : Array Slot, lv_has ls maxL (lv_args 0 av) → VW p l e rm s m args below meth c 0 0 Q A g sh t (F0 m 0 ls [])) : MI l g sh y ws rm av t r u := by
  intro sz
  refine Met.ofW (cc := cc) (maxL := maxL) (ret := (some .boolean)) hy hw ?_
  intro p e s m args below meth c s₁ B hml hv
  obtain ⟨rfl, hsz, hP, hK, hD0, hnk⟩ := hv
  have hts := atoms_spec (ws := ws) B.pre
  have hown := findClass_of_methodNamed B.named
  rw [ho] at hown
  subst hsz
  have hl0 := lv_entry av (n := maxL) hl
  rw [lg_entry_eq]
  refine body p e s m _ below meth c (va_A (ct_w g sh t) s.heap.size) _ ⟨B.exec, B.bytes, hml, hown, hts, hK, fun q h => Or.inr h, hnk⟩ ?_ _ hl0 s.heap [] hP hD0.self va_S.rf
  intro pc ls x v hx hu hn hd H locs hP hD hS
  subst hx; subst hu
  exact W.zret B.exec B.bytes B.returns hn (fun T ht hW => ⟨⟨_, _, rfl, ⟨rfl, rfl⟩, by rw [ht]; exact hP, hD⟩, hS.F ht⟩) hS.2.2 hd (hlocks := B.notSynchronized)
theorem MV.of {l : Launch} {g : ct_G} {sh : List ct_K} {y : MethodName} {own : String} {ws ws' : List Cond} {rm : Room} {av : List Value} {cc : ByteArray} {maxL : Nat} {t u : ct_St} (ho : y.cls = own) (hy : plainName y.cls = true) (hw : ws = Cond.code y cc maxL none :: ws') (hl : (lg_sl av).length ≤ maxL)
    (body : ∀ (p : Program) (e : Env) (s : State) (m : MethodId) (args : Array Value) (below : List Frame) (meth : Method) (c : Code) (A : Nat → Prop) (Q : State → Prop), Cx p s m args c A g cc own ws maxL → (∀ (pc : Nat) (ls : Array Slot) (v : ct_St), v = u → decode cc pc = .ok (.return_, 1) → VW p l e rm s m args below meth c 0 0 Q A g sh v (F0 m pc ls [])) → ∀ ls : Array Slot, lv_has ls maxL (lv_args 0 av) → VW p l e rm s m args below meth c 0 0 Q A g sh t (F0 m 0 ls [])) : MV l g sh y ws rm av t u := by
  intro sz
  refine Met.ofW (cc := cc) (maxL := maxL) (ret := none) hy hw ?_
  intro p e s m args below meth c s₁ B hml hv
  obtain ⟨rfl, hsz, hP, hK, hD0, hnk⟩ := hv
  have hts := atoms_spec (ws := ws) B.pre
  have hown := findClass_of_methodNamed B.named
  rw [ho] at hown
  subst hsz
  have hl0 := lv_entry av (n := maxL) hl
  rw [lg_entry_eq]
  refine body p e s m _ below meth c (va_A (ct_w g sh t) s.heap.size) _ ⟨B.exec, B.bytes, hml, hown, hts, hK, fun q h => Or.inr h, hnk⟩ ?_ _ hl0 s.heap [] hP hD0.self va_S.rf
  intro pc ls v hu hd H locs hP hD hS
  subst hu
  exact W.vret B.exec B.bytes B.returns (fun T ht hW => ⟨⟨_, rfl, rfl, by rw [ht]; exact hP, hD⟩, hS.F ht⟩) hS.2.2 hd (hlocks := B.notSynchronized)
end
section
section CTW
variable {p : Program} {l : Launch} {e : Env} {R : Room} {s : State} {m : MethodId} {args : Array Value} {below : List Frame} {meth : Method} {c : Code} {cells slots : Nat} {Q : State → Prop} {A : Nat → Prop} {g : ct_G} {sh : List ct_K} {t : ct_St} {cc : ByteArray} {own : String} {ws : List Cond} {nL : Nat} {pc : Nat} {ls : Array Slot} {rest : List Value}
theorem v_lit {x v : Int32} (h : x = v) (k : VW p l e R s m args below meth c cells slots Q A g sh t (F0 m pc ls (.int v :: rest))) : VW p l e R s m args below meth c cells slots Q A g sh t (F0 m pc ls (.int x :: rest)) := by rw [h]; exact k
theorem v_getF (C : Cx p s m args c A g cc own ws nL) {CC : String} {T : u_T} {N ci i j index : Nat} {fs : List (Option Nat)} {rf nm ds : String} {fb : Bool} {a : Nat} {f0 : Nat → Int32} (hin : ∀ w ∈ u_ws CC T N, w ∈ ws) (hk : sh[i]? = some (.inr (.inr (ci, fs)))) (ha : g.2.1 i = a) (hc : vwCl[ci]? = some (CC, T, N)) (hT : T j = (rf, nm, ds, fb)) (hjN : j < N) (hj : fs[j]? = some none) (hlink : (Cond.fieldLink own index rf nm ds).before args s = true) (d : decode cc pc = .ok (.getfield index, 3)) (k : VW p l e R s m args below meth c cells slots Q A g sh (ur t i f0) (F0 m (pc + 3) ls (.int (f0 j) :: rest))) : VW p l e R s m args below meth c cells slots Q A g sh (ur t i f0) (F0 m pc ls (.ref a :: rest)) := v_getI C hin hk ha hc hT hjN hj hlink d (by rw [ur_at]; exact k)
theorem v_getU {CC : String} {T : u_T} {N ci i j index : Nat} {fs : List (Option Nat)} {rf nm ds : String} {fb : Bool} {a : Nat} {i0 : Nat} {f0 : Nat → Int32} (hne : i ≠ i0) (C : Cx p s m args c A g cc own ws nL) (hin : ∀ w ∈ u_ws CC T N, w ∈ ws) (hk : sh[i]? = some (.inr (.inr (ci, fs)))) (ha : g.2.1 i = a) (hc : vwCl[ci]? = some (CC, T, N)) (hT : T j = (rf, nm, ds, fb)) (hjN : j < N) (hj : fs[j]? = some none) (hlink : (Cond.fieldLink own index rf nm ds).before args s = true) (d : decode cc pc = .ok (.getfield index, 3)) (k : VW p l e R s m args below meth c cells slots Q A g sh (ur t i0 f0) (F0 m (pc + 3) ls (.int (t i j) :: rest))) : VW p l e R s m args below meth c cells slots Q A g sh (ur t i0 f0) (F0 m pc ls (.ref a :: rest)) := v_getI C hin hk ha hc hT hjN hj hlink d (by rw [ur_ne _ _ hne]; exact k)
theorem v_putF (C : Cx p s m args c A g cc own ws nL) {CC : String} {T : u_T} {N ci i j index : Nat} {fs : List (Option Nat)} {rf nm ds : String} {a : Nat} {ty : FieldType} {v : Int32} {f0 : Nat → Int32} (hin : ∀ w ∈ u_ws CC T N, w ∈ ws) (ty0 : Nat → FieldType) (hty : ∀ k, k < N → parseFieldDescriptor (T k).2.2.1 = some (ty0 k)) (hnm : ∀ a, a < N → ∀ b, b < N → a ≠ b → (T a).2.1 ≠ (T b).2.1) (hk : sh[i]? = some (.inr (.inr (ci, fs)))) (ha : g.2.1 i = a) (hc : vwCl[ci]? = some (CC, T, N)) (hT : T j = (rf, nm, ds, false)) (hjN : j < N) (hj : fs[j]? = some none) (hlink : (Cond.fieldLink own index rf nm ds).before args s = true) (hd : ty0 j = ty) (hn : narrow ty (.int v) = .int v) (hf : fits ty (.int v) = true) (d : decode cc pc = .ok (.putfield index, 3)) (k : VW p l e R s m args below meth c cells slots Q A g sh (ur t i (upd f0 j v)) (F0 m (pc + 3) ls rest)) : VW p l e R s m args below meth c cells slots Q A g sh (ur t i f0) (F0 m pc ls (.int v :: .ref a :: rest)) := v_put C hin ty0 hty hnm hk ha hc hT hjN hj hlink hd hn hf d (by rw [us_ur]; exact k)
end CTW
theorem MI.un {l : Launch} {g : ct_G} {sh : List ct_K} {y : MethodName} {ws : List Cond} {rm : Room} {av : List Value} {t : ct_St} {i : Nat} {r : Int32} {u : ct_St} (h : MI l g sh y ws rm av (ur t i (t i)) r u) : MI l g sh y ws rm av t r u := by rw [ur_self] at h; exact h
theorem MV.un {l : Launch} {g : ct_G} {sh : List ct_K} {y : MethodName} {ws : List Cond} {rm : Room} {av : List Value} {t : ct_St} {i : Nat} {u : ct_St} (h : MV l g sh y ws rm av (ur t i (t i)) u) : MV l g sh y ws rm av t u := by rw [ur_self] at h; exact h
theorem us_ne {t : ct_St} {i k a : Nat} {v : Int32} (h : a ≠ i) : us t i k v a = t a := if_neg h
theorem us_at {t : ct_St} {i k : Nat} {v : Int32} : us t i k v i = upd (t i) k v := if_pos rfl
/-- a row of truth values -/
def bl (f : Nat → Int32) : Prop := ∀ j, f j = 0 ∨ f j = 1
theorem bl_up {f : Nat → Int32} {k : Nat} {v : Int32} (h : bl f) (hv : v = 0 ∨ v = 1) : bl (upd f k v) := by
  intro j
  unfold upd
  split
  · exact hv
  · exact h j
theorem nb_of {v : Int32} (h : v = 0 ∨ v = 1) : narrow .boolean (.int v) = .int v := by
  rcases h with h | h <;> subst h <;> rfl
theorem wi_in {a b : Int32} {n : Nat} (h1 : ¬ a < 0) (h2 : ¬ b < a) (hb : b.toInt + 1 = n) : vp_in a n := by
  rw [vp_in_iff]
  rw [Int32.lt_iff_toInt_lt] at h1 h2
  have e0 : (0 : Int32).toInt = 0 := by decide
  rw [e0] at h1
  omega
theorem wi_in2 {a b : Int32} {n : Nat} (h1 : ¬ a < 0) (h2 : ¬ b ≤ a) (hb : b.toInt = n) : vp_in a n := by
  rw [vp_in_iff]
  rw [Int32.lt_iff_toInt_lt] at h1
  rw [Int32.le_iff_toInt_le] at h2
  have e0 : (0 : Int32).toInt = 0 := by decide
  rw [e0] at h1
  omega
def fsX0 : List (Option Nat) := [none, none, none, none, none, none, none]
def fsX1 : List (Option Nat) := [none, none, none, none, none, none, none, none]
def fsX2 : List (Option Nat) := [none, none, none, none, none, none, none, none, none, none, none]
def fsX3 : List (Option Nat) := [none, none, none, none, none]
def fsX4 : List (Option Nat) := [none, none]
def fsX5 : List (Option Nat) := [some 8, some 9, some 10, some 11, none, none]
def fsX6 : List (Option Nat) := [none, none, none, none, none]
def fsX7 : List (Option Nat) := [some 1, some 2, some 3, some 4, some 5, some 6, some 7, none, none]
def fsX8 : List (Option Nat) := [none, some 31, some 32, some 33, some 34, some 35, some 36, some 37, some 38, some 39, some 40, some 41, some 42, some 43, some 44, some 45, some 46, some 47, some 48, some 49, some 50, some 51, some 52, some 53, some 54, some 55, some 56, some 57, some 58, some 59, some 60, some 61, none, some 62, none, some 63, some 64, some 65, some 66, some 67, none, none, none, none, none]
/-- the cells: the system's 0 .. 29, the reference's 30 .. 67 -/
def shG : List ct_K := [.inr (.inr (7, fsX7)), .inr (.inl (2, [12, 13, 14, 15])), .inr (.inl (3, [16, 17, 18, 19])), .inr (.inl (4, [20, 21, 22, 23])), .inr (.inl (5, [24, 25, 26, 27])), .inr (.inl (6, [28, 29])), .inr (.inr (5, fsX5)), .inr (.inr (6, fsX6)), .inl (0, 8), .inl (0, 24), .inl (0, 24), .inl (0, 24), .inr (.inr (2, fsX2)), .inr (.inr (2, fsX2)), .inr (.inr (2, fsX2)), .inr (.inr (2, fsX2)), .inr (.inr (3, fsX3)), .inr (.inr (3, fsX3)), .inr (.inr (3, fsX3)), .inr (.inr (3, fsX3)), .inr (.inr (0, fsX0)), .inr (.inr (0, fsX0)), .inr (.inr (0, fsX0)), .inr (.inr (0, fsX0)), .inr (.inr (1, fsX1)), .inr (.inr (1, fsX1)), .inr (.inr (1, fsX1)), .inr (.inr (1, fsX1)), .inr (.inr (4, fsX4)), .inr (.inr (4, fsX4)), .inr (.inr (8, fsX8)), .inl (0, 4), .inl (0, 4), .inl (0, 4), .inl (0, 4), .inl (0, 4), .inl (0, 4), .inl (0, 4), .inl (0, 4), .inl (0, 4), .inl (1, 4), .inl (1, 4), .inl (0, 4), .inl (0, 4), .inl (0, 4), .inl (0, 4), .inl (0, 4), .inl (0, 4), .inl (0, 4), .inl (0, 4), .inl (0, 4), .inl (0, 4), .inl (0, 4), .inl (0, 4), .inl (0, 4), .inl (0, 4), .inl (0, 4), .inl (0, 4), .inl (0, 4), .inl (0, 4), .inl (0, 4), .inl (0, 4), .inl (0, 8), .inl (0, 24), .inl (0, 24), .inl (0, 24), .inl (1, 2), .inl (0, 2)]
theorem k_0 : shG[0]? = some (.inr (.inr (7, fsX7))) := rfl
theorem k_1 : shG[1]? = some (.inr (.inl (2, [12, 13, 14, 15]))) := rfl
theorem k_2 : shG[2]? = some (.inr (.inl (3, [16, 17, 18, 19]))) := rfl
theorem k_3 : shG[3]? = some (.inr (.inl (4, [20, 21, 22, 23]))) := rfl
theorem k_4 : shG[4]? = some (.inr (.inl (5, [24, 25, 26, 27]))) := rfl
theorem k_5 : shG[5]? = some (.inr (.inl (6, [28, 29]))) := rfl
theorem k_6 : shG[6]? = some (.inr (.inr (5, fsX5))) := rfl
theorem k_7 : shG[7]? = some (.inr (.inr (6, fsX6))) := rfl
theorem k_8 : shG[8]? = some (.inl (0, 8)) := rfl
theorem k_9 : shG[9]? = some (.inl (0, 24)) := rfl
theorem k_10 : shG[10]? = some (.inl (0, 24)) := rfl
theorem k_11 : shG[11]? = some (.inl (0, 24)) := rfl
theorem k_12 : shG[12]? = some (.inr (.inr (2, fsX2))) := rfl
theorem k_13 : shG[13]? = some (.inr (.inr (2, fsX2))) := rfl
theorem k_14 : shG[14]? = some (.inr (.inr (2, fsX2))) := rfl
theorem k_15 : shG[15]? = some (.inr (.inr (2, fsX2))) := rfl
theorem k_16 : shG[16]? = some (.inr (.inr (3, fsX3))) := rfl
theorem k_17 : shG[17]? = some (.inr (.inr (3, fsX3))) := rfl
theorem k_18 : shG[18]? = some (.inr (.inr (3, fsX3))) := rfl
theorem k_19 : shG[19]? = some (.inr (.inr (3, fsX3))) := rfl
theorem k_20 : shG[20]? = some (.inr (.inr (0, fsX0))) := rfl
theorem k_21 : shG[21]? = some (.inr (.inr (0, fsX0))) := rfl
theorem k_22 : shG[22]? = some (.inr (.inr (0, fsX0))) := rfl
theorem k_23 : shG[23]? = some (.inr (.inr (0, fsX0))) := rfl
theorem k_24 : shG[24]? = some (.inr (.inr (1, fsX1))) := rfl
theorem k_25 : shG[25]? = some (.inr (.inr (1, fsX1))) := rfl
theorem k_26 : shG[26]? = some (.inr (.inr (1, fsX1))) := rfl
theorem k_27 : shG[27]? = some (.inr (.inr (1, fsX1))) := rfl
theorem k_28 : shG[28]? = some (.inr (.inr (4, fsX4))) := rfl
theorem k_29 : shG[29]? = some (.inr (.inr (4, fsX4))) := rfl
theorem k_30 : shG[30]? = some (.inr (.inr (8, fsX8))) := rfl
theorem k_31 : shG[31]? = some (.inl (0, 4)) := rfl
theorem k_32 : shG[32]? = some (.inl (0, 4)) := rfl
theorem k_33 : shG[33]? = some (.inl (0, 4)) := rfl
theorem k_34 : shG[34]? = some (.inl (0, 4)) := rfl
theorem k_35 : shG[35]? = some (.inl (0, 4)) := rfl
theorem k_36 : shG[36]? = some (.inl (0, 4)) := rfl
theorem k_37 : shG[37]? = some (.inl (0, 4)) := rfl
theorem k_38 : shG[38]? = some (.inl (0, 4)) := rfl
theorem k_39 : shG[39]? = some (.inl (0, 4)) := rfl
theorem k_40 : shG[40]? = some (.inl (1, 4)) := rfl
theorem k_41 : shG[41]? = some (.inl (1, 4)) := rfl
theorem k_42 : shG[42]? = some (.inl (0, 4)) := rfl
theorem k_43 : shG[43]? = some (.inl (0, 4)) := rfl
theorem k_44 : shG[44]? = some (.inl (0, 4)) := rfl
theorem k_45 : shG[45]? = some (.inl (0, 4)) := rfl
theorem k_46 : shG[46]? = some (.inl (0, 4)) := rfl
theorem k_47 : shG[47]? = some (.inl (0, 4)) := rfl
theorem k_48 : shG[48]? = some (.inl (0, 4)) := rfl
theorem k_49 : shG[49]? = some (.inl (0, 4)) := rfl
theorem k_50 : shG[50]? = some (.inl (0, 4)) := rfl
theorem k_51 : shG[51]? = some (.inl (0, 4)) := rfl
theorem k_52 : shG[52]? = some (.inl (0, 4)) := rfl
theorem k_53 : shG[53]? = some (.inl (0, 4)) := rfl
theorem k_54 : shG[54]? = some (.inl (0, 4)) := rfl
theorem k_55 : shG[55]? = some (.inl (0, 4)) := rfl
theorem k_56 : shG[56]? = some (.inl (0, 4)) := rfl
theorem k_57 : shG[57]? = some (.inl (0, 4)) := rfl
theorem k_58 : shG[58]? = some (.inl (0, 4)) := rfl
theorem k_59 : shG[59]? = some (.inl (0, 4)) := rfl
theorem k_60 : shG[60]? = some (.inl (0, 4)) := rfl
theorem k_61 : shG[61]? = some (.inl (0, 4)) := rfl
theorem k_62 : shG[62]? = some (.inl (0, 8)) := rfl
theorem k_63 : shG[63]? = some (.inl (0, 24)) := rfl
theorem k_64 : shG[64]? = some (.inl (0, 24)) := rfl
theorem k_65 : shG[65]? = some (.inl (0, 24)) := rfl
theorem k_66 : shG[66]? = some (.inl (1, 2)) := rfl
theorem k_67 : shG[67]? = some (.inl (0, 2)) := rfl
theorem k_cnt {j : Nat} (h : j < 4) : shG[12 + j]? = some (.inr (.inr (2, fsX2))) := by
  rcases (show j = 0 ∨ j = 1 ∨ j = 2 ∨ j = 3 by omega) with rfl | rfl | rfl | rfl <;> rfl
theorem q_cnt {j : Nat} (h : j < 4) : ([12, 13, 14, 15] : List Nat)[j]? = some (12 + j) := by
  rcases (show j = 0 ∨ j = 1 ∨ j = 2 ∨ j = 3 by omega) with rfl | rfl | rfl | rfl <;> rfl
theorem k_inp {j : Nat} (h : j < 4) : shG[16 + j]? = some (.inr (.inr (3, fsX3))) := by
  rcases (show j = 0 ∨ j = 1 ∨ j = 2 ∨ j = 3 by omega) with rfl | rfl | rfl | rfl <;> rfl
theorem q_inp {j : Nat} (h : j < 4) : ([16, 17, 18, 19] : List Nat)[j]? = some (16 + j) := by
  rcases (show j = 0 ∨ j = 1 ∨ j = 2 ∨ j = 3 by omega) with rfl | rfl | rfl | rfl <;> rfl
theorem k_cat {j : Nat} (h : j < 4) : shG[20 + j]? = some (.inr (.inr (0, fsX0))) := by
  rcases (show j = 0 ∨ j = 1 ∨ j = 2 ∨ j = 3 by omega) with rfl | rfl | rfl | rfl <;> rfl
theorem q_cat {j : Nat} (h : j < 4) : ([20, 21, 22, 23] : List Nat)[j]? = some (20 + j) := by
  rcases (show j = 0 ∨ j = 1 ∨ j = 2 ∨ j = 3 by omega) with rfl | rfl | rfl | rfl <;> rfl
theorem k_chn {j : Nat} (h : j < 4) : shG[24 + j]? = some (.inr (.inr (1, fsX1))) := by
  rcases (show j = 0 ∨ j = 1 ∨ j = 2 ∨ j = 3 by omega) with rfl | rfl | rfl | rfl <;> rfl
theorem q_chn {j : Nat} (h : j < 4) : ([24, 25, 26, 27] : List Nat)[j]? = some (24 + j) := by
  rcases (show j = 0 ∨ j = 1 ∨ j = 2 ∨ j = 3 by omega) with rfl | rfl | rfl | rfl <;> rfl
theorem k_par {j : Nat} (h : j < 2) : shG[28 + j]? = some (.inr (.inr (4, fsX4))) := by
  rcases (show j = 0 ∨ j = 1 by omega) with rfl | rfl <;> rfl
theorem q_par {j : Nat} (h : j < 2) : ([28, 29] : List Nat)[j]? = some (28 + j) := by
  rcases (show j = 0 ∨ j = 1 by omega) with rfl | rfl <;> rfl
def rmd (d : Nat) : Room := { frames := d, cells := 0, slots := 0, locals := 26 * d }
theorem vp_lt {x : Int32} {n : Nat} (h : vp_in x n) : ix x < n := Nat.not_le.mp fun q => h (Or.inr q)
theorem vp_nle {x : Int32} {n : Nat} {y : Int32} (h : vp_in x n) (hy : y.toInt = n) : ¬ y ≤ x := by
  obtain ⟨h1, h2⟩ := vp_in_iff.mp h
  rw [Int32.le_iff_toInt_le, hy]
  omega
theorem vl_0_2 : vp_in (0 : Int32) 2 := by unfold vp_in; decide
theorem vl_1_2 : vp_in (1 : Int32) 2 := by unfold vp_in; decide
theorem vl_0_4 : vp_in (0 : Int32) 4 := by unfold vp_in; decide
theorem vl_1_4 : vp_in (1 : Int32) 4 := by unfold vp_in; decide
theorem vl_2_4 : vp_in (2 : Int32) 4 := by unfold vp_in; decide
theorem vl_3_4 : vp_in (3 : Int32) 4 := by unfold vp_in; decide
theorem vl_0_8 : vp_in (0 : Int32) 8 := by unfold vp_in; decide
theorem vl_1_8 : vp_in (1 : Int32) 8 := by unfold vp_in; decide
theorem vl_2_8 : vp_in (2 : Int32) 8 := by unfold vp_in; decide
theorem vl_3_8 : vp_in (3 : Int32) 8 := by unfold vp_in; decide
theorem vl_4_8 : vp_in (4 : Int32) 8 := by unfold vp_in; decide
theorem vl_5_8 : vp_in (5 : Int32) 8 := by unfold vp_in; decide
theorem vl_6_8 : vp_in (6 : Int32) 8 := by unfold vp_in; decide
theorem vl_7_8 : vp_in (7 : Int32) 8 := by unfold vp_in; decide
theorem vl_0_24 : vp_in (0 : Int32) 24 := by unfold vp_in; decide
theorem vl_1_24 : vp_in (1 : Int32) 24 := by unfold vp_in; decide
theorem vl_2_24 : vp_in (2 : Int32) 24 := by unfold vp_in; decide
theorem vl_3_24 : vp_in (3 : Int32) 24 := by unfold vp_in; decide
theorem vl_4_24 : vp_in (4 : Int32) 24 := by unfold vp_in; decide
theorem vl_5_24 : vp_in (5 : Int32) 24 := by unfold vp_in; decide
theorem vl_6_24 : vp_in (6 : Int32) 24 := by unfold vp_in; decide
theorem vl_7_24 : vp_in (7 : Int32) 24 := by unfold vp_in; decide
theorem vl_8_24 : vp_in (8 : Int32) 24 := by unfold vp_in; decide
theorem vl_9_24 : vp_in (9 : Int32) 24 := by unfold vp_in; decide
theorem vl_10_24 : vp_in (10 : Int32) 24 := by unfold vp_in; decide
theorem vl_11_24 : vp_in (11 : Int32) 24 := by unfold vp_in; decide
theorem vl_12_24 : vp_in (12 : Int32) 24 := by unfold vp_in; decide
theorem vl_13_24 : vp_in (13 : Int32) 24 := by unfold vp_in; decide
theorem vl_14_24 : vp_in (14 : Int32) 24 := by unfold vp_in; decide
theorem vl_15_24 : vp_in (15 : Int32) 24 := by unfold vp_in; decide
theorem vl_16_24 : vp_in (16 : Int32) 24 := by unfold vp_in; decide
theorem vl_17_24 : vp_in (17 : Int32) 24 := by unfold vp_in; decide
theorem vl_18_24 : vp_in (18 : Int32) 24 := by unfold vp_in; decide
theorem vl_19_24 : vp_in (19 : Int32) 24 := by unfold vp_in; decide
theorem vl_20_24 : vp_in (20 : Int32) 24 := by unfold vp_in; decide
theorem vl_21_24 : vp_in (21 : Int32) 24 := by unfold vp_in; decide
theorem vl_22_24 : vp_in (22 : Int32) 24 := by unfold vp_in; decide
theorem vl_23_24 : vp_in (23 : Int32) 24 := by unfold vp_in; decide
end
section
theorem hs_X8_within : yX8_within.cls ≠ "java/lang/invoke/MethodHandle" ∧ yX8_within.cls ≠ "java/lang/invoke/VarHandle" ∧ (parseMethodDescriptor yX8_within.desc).map (fun d => d.parameters.length) = some 3 := by decide +kernel
def X8_within_r (a1 : Int32) (a2 : Int32) (a3 : Int32) : Int32 :=
  if a1 < a2 then
    0
  else
    if a3 < a1 then
      0
    else
      1
set_option maxHeartbeats 4000000 in
set_option maxRecDepth 100000 in
theorem c_X8_within (l : Launch) (g : ct_G) (t : ct_St) (a1 : Int32) (a2 : Int32) (a3 : Int32) : MI l g shG yX8_within wsX8_within (rmd 0) [.int a1, .int a2, .int a3] t (X8_within_r a1 a2 a3) t := by
  refine MZ.of (own := RX8) (cc := cX8_within) (maxL := 3) rfl (by decide) rfl (Nat.le_of_ble_eq_true rfl) (fun p e s m args below meth cd A Q C hret ls hl => ?_)
  have hl : lv_has ls 3 [(0, .int a1), (1, .int a2), (2, .int a3)] := hl
  refine v_iload_n C dX8_within_0 rfl (lv_at hl 0 rfl) ?_
  refine v_iload_n C dX8_within_1 rfl (lv_at hl 1 rfl) ?_
  refine v_icmp_lt (tgt := 14) C dX8_within_2 (by decide) (fun c_1 => ?_) (fun c_1 => ?_)
  · refine v_iconst (v := 0) C dX8_within_14 (by decide) ?_
    exact hret _ _ _ _ (Eq.symm ((if_pos c_1).trans rfl)) rfl rfl dX8_within_15
  · refine v_iload_n C dX8_within_5 rfl (lv_at hl 0 rfl) ?_
    refine v_iload_n C dX8_within_6 rfl (lv_at hl 2 rfl) ?_
    refine v_icmp_gt (tgt := 14) C dX8_within_7 (by decide) (fun c_2 => ?_) (fun c_2 => ?_)
    · refine v_iconst (v := 0) C dX8_within_14 (by decide) ?_
      exact hret _ _ _ _ (Eq.symm ((if_neg c_1).trans ((if_pos c_2).trans rfl))) rfl rfl dX8_within_15
    · refine v_iconst (v := 1) C dX8_within_10 (by decide) ?_
      refine v_goto (tgt := 15) C dX8_within_11 (by decide) ?_
      exact hret _ _ _ _ (Eq.symm ((if_neg c_1).trans ((if_neg c_2).trans rfl))) rfl rfl dX8_within_15
theorem X8_within7_in {a : Int32} (h : ¬ X8_within_r a 0 7 = 0) : vp_in a 8 := by
  unfold X8_within_r at h
  split at h
  · exact absurd rfl h
  · split at h
    · exact absurd rfl h
    · next h1 h2 => exact wi_in h1 h2 (by decide)
theorem X8_within_z (a1 : Int32) (a2 : Int32) (a3 : Int32) : narrow .boolean (.int (X8_within_r a1 a2 a3)) = .int (X8_within_r a1 a2 a3) := by
  unfold X8_within_r
  (repeat' split) <;> first | rfl
theorem hs_X8_isOne : yX8_isOne.cls ≠ "java/lang/invoke/MethodHandle" ∧ yX8_isOne.cls ≠ "java/lang/invoke/VarHandle" ∧ (parseMethodDescriptor yX8_isOne.desc).map (fun d => d.parameters.length) = some 1 := by decide +kernel
def X8_isOne_r (a1 : Int32) : Int32 :=
  X8_within_r a1 0 3
set_option maxHeartbeats 4000000 in
set_option maxRecDepth 100000 in
theorem c_X8_isOne (l : Launch) (g : ct_G) (t : ct_St) (a1 : Int32) : MI l g shG yX8_isOne wsX8_isOne (rmd 1) [.int a1] t (X8_isOne_r a1) t := by
  refine MZ.of (own := RX8) (cc := cX8_isOne) (maxL := 1) rfl (by decide) rfl (Nat.le_of_ble_eq_true rfl) (fun p e s m args below meth cd A Q C hret ls hl => ?_)
  have hl : lv_has ls 1 [(0, .int a1)] := hl
  refine v_iload_n C dX8_isOne_0 rfl (lv_at hl 0 rfl) ?_
  refine v_iconst (v := 0) C dX8_isOne_1 (by decide) ?_
  refine v_iconst (v := 3) C dX8_isOne_2 (by decide) ?_
  refine v_scalli C (c_X8_within l g _ _ _ _) (va_cwS 3 C.2.2.2.2.1 gX8_isOne_X8_within rfl rfl rfl hs_X8_within ⟨Nat.le_of_ble_eq_true rfl, Nat.le_of_ble_eq_true rfl⟩) rfl hl.1 rfl (Nat.le_of_ble_eq_true rfl) dX8_isOne_3 ⟨Nat.le_refl _, Nat.le_refl _⟩ ?_
  exact hret _ _ _ _ rfl rfl (X8_within_z _ _ _) dX8_isOne_6
theorem X8_isOne_in {a : Int32} (h : ¬ X8_isOne_r a = 0) : vp_in a 4 := by
  unfold X8_isOne_r X8_within_r at h
  split at h
  · exact absurd rfl h
  · split at h
    · exact absurd rfl h
    · next h1 h2 => exact wi_in h1 h2 (by decide)
theorem X8_isOne_z (a1 : Int32) : narrow .boolean (.int (X8_isOne_r a1)) = .int (X8_isOne_r a1) := by
  unfold X8_isOne_r
  (repeat' split) <;> first | rfl | exact X8_within_z _ _ _
theorem hs_X8_isPair : yX8_isPair.cls ≠ "java/lang/invoke/MethodHandle" ∧ yX8_isPair.cls ≠ "java/lang/invoke/VarHandle" ∧ (parseMethodDescriptor yX8_isPair.desc).map (fun d => d.parameters.length) = some 1 := by decide +kernel
def X8_isPair_r (a1 : Int32) : Int32 :=
  X8_within_r a1 0 1
set_option maxHeartbeats 4000000 in
set_option maxRecDepth 100000 in
theorem c_X8_isPair (l : Launch) (g : ct_G) (t : ct_St) (a1 : Int32) : MI l g shG yX8_isPair wsX8_isPair (rmd 1) [.int a1] t (X8_isPair_r a1) t := by
  refine MZ.of (own := RX8) (cc := cX8_isPair) (maxL := 1) rfl (by decide) rfl (Nat.le_of_ble_eq_true rfl) (fun p e s m args below meth cd A Q C hret ls hl => ?_)
  have hl : lv_has ls 1 [(0, .int a1)] := hl
  refine v_iload_n C dX8_isPair_0 rfl (lv_at hl 0 rfl) ?_
  refine v_iconst (v := 0) C dX8_isPair_1 (by decide) ?_
  refine v_iconst (v := 1) C dX8_isPair_2 (by decide) ?_
  refine v_scalli C (c_X8_within l g _ _ _ _) (va_cwS 3 C.2.2.2.2.1 gX8_isPair_X8_within rfl rfl rfl hs_X8_within ⟨Nat.le_of_ble_eq_true rfl, Nat.le_of_ble_eq_true rfl⟩) rfl hl.1 rfl (Nat.le_of_ble_eq_true rfl) dX8_isPair_3 ⟨Nat.le_refl _, Nat.le_refl _⟩ ?_
  exact hret _ _ _ _ rfl rfl (X8_within_z _ _ _) dX8_isPair_6
theorem X8_isPair_in {a : Int32} (h : ¬ X8_isPair_r a = 0) : vp_in a 2 := by
  unfold X8_isPair_r X8_within_r at h
  split at h
  · exact absurd rfl h
  · split at h
    · exact absurd rfl h
    · next h1 h2 => exact wi_in h1 h2 (by decide)
theorem X8_isPair_z (a1 : Int32) : narrow .boolean (.int (X8_isPair_r a1)) = .int (X8_isPair_r a1) := by
  unfold X8_isPair_r
  (repeat' split) <;> first | rfl | exact X8_within_z _ _ _
theorem iX8_goesOver_X8 : ∀ w ∈ wsX80, w ∈ wsX8_goesOver := fun _ h => (List.mem_cons_of_mem _ (List.mem_append_right _ h))
theorem hv_X8_goesOver : yX8_goesOver.cls = RX8 ∧ yX8_goesOver.cls ≠ "java/lang/invoke/MethodHandle" ∧ yX8_goesOver.cls ≠ "java/lang/invoke/VarHandle" ∧ (parseMethodDescriptor yX8_goesOver.desc).map (fun d => d.parameters.length) = some 1 := by decide +kernel
def X8_goesOver_s (a1 : Int32) (t : ct_St) : ct_St :=
  let t1 := us t 41 (ix a1) 1
  let t2 := us t1 38 (ix a1) ((t1 38 (ix a1)) + 1)
  t2
set_option maxHeartbeats 4000000 in
set_option maxRecDepth 100000 in
theorem c_X8_goesOver (l : Launch) (g : ct_G) (t : ct_St) (a1 : Int32) (h1 : vp_in a1 4) : MV l g shG yX8_goesOver wsX8_goesOver (rmd 0) [.ref (g.2.1 30), .int a1] t (X8_goesOver_s a1 t) := by
  refine MV.of (own := RX8) (cc := cX8_goesOver) (maxL := 2) rfl (by decide) rfl (Nat.le_of_ble_eq_true rfl) (fun p e s m args below meth cd A Q C hret ls hl => ?_)
  have hl : lv_has ls 2 [(0, .ref (g.2.1 30)), (1, .int a1)] := hl
  refine v_aload_n C dX8_goesOver_0 rfl (lv_at hl 0 rfl) ?_
  refine v_getR C iX8_goesOver_X8 k_30 rfl rfl (j := 11) rfl (by decide) rfl (C.w 1 rfl) dX8_goesOver_1 ?_
  refine v_iload_n C dX8_goesOver_4 rfl (lv_at hl 1 rfl) ?_
  refine v_iconst (v := 1) C dX8_goesOver_5 (by decide) ?_
  refine v_zast (z := 1) C k_41 rfl h1 (by decide) dX8_goesOver_6 ?_
  refine v_aload_n C dX8_goesOver_7 rfl (lv_at hl 0 rfl) ?_
  refine v_getR C iX8_goesOver_X8 k_30 rfl rfl (j := 8) rfl (by decide) rfl (C.w 2 rfl) dX8_goesOver_8 ?_
  refine v_iload_n C dX8_goesOver_11 rfl (lv_at hl 1 rfl) ?_
  refine v_dup2 C dX8_goesOver_12 rfl rfl ?_
  refine v_iald C k_38 rfl h1 dX8_goesOver_13 ?_
  refine v_iconst (v := 1) C dX8_goesOver_14 (by decide) ?_
  refine v_iadd C dX8_goesOver_15 ?_
  refine v_iast C k_38 rfl h1 dX8_goesOver_16 ?_
  exact hret _ _ _ rfl dX8_goesOver_17
theorem X8_goesOver_s_fr (a1 : Int32) (t : ct_St) {r : Nat} (h38 : r ≠ 38) (h41 : r ≠ 41) : X8_goesOver_s a1 t r = t r := by
  dsimp only [X8_goesOver_s]
  (repeat' split) <;> simp only [us_ne, h38, h41, ne_eq, not_false_eq_true]
theorem iX8_takesTop_X8 : ∀ w ∈ wsX80, w ∈ wsX8_takesTop := fun _ h => (List.mem_cons_of_mem _ (List.mem_append_right _ h))
theorem hv_X8_takesTop : yX8_takesTop.cls = RX8 ∧ yX8_takesTop.cls ≠ "java/lang/invoke/MethodHandle" ∧ yX8_takesTop.cls ≠ "java/lang/invoke/VarHandle" ∧ (parseMethodDescriptor yX8_takesTop.desc).map (fun d => d.parameters.length) = some 1 := by decide +kernel
def X8_takesTop_s (a1 : Int32) (t : ct_St) : ct_St :=
  if t 39 (ix a1) = (-9) then
    let t3 := us t 32 (ix a1) (t 32 (ix a1))
    let t4 := us t3 39 (ix a1) (-9)
    t4
  else
    let t1 := us t 32 (ix a1) (t 39 (ix a1))
    let t2 := us t1 39 (ix a1) (-9)
    t2
set_option maxHeartbeats 4000000 in
set_option maxRecDepth 100000 in
theorem c_X8_takesTop (l : Launch) (g : ct_G) (t : ct_St) (a1 : Int32) (h1 : vp_in a1 4) : MV l g shG yX8_takesTop wsX8_takesTop (rmd 0) [.ref (g.2.1 30), .int a1] t (X8_takesTop_s a1 t) := by
  refine MV.of (own := RX8) (cc := cX8_takesTop) (maxL := 2) rfl (by decide) rfl (Nat.le_of_ble_eq_true rfl) (fun p e s m args below meth cd A Q C hret ls hl => ?_)
  have hl : lv_has ls 2 [(0, .ref (g.2.1 30)), (1, .int a1)] := hl
  refine v_aload_n C dX8_takesTop_0 rfl (lv_at hl 0 rfl) ?_
  refine v_getR C iX8_takesTop_X8 k_30 rfl rfl (j := 2) rfl (by decide) rfl (C.w 1 rfl) dX8_takesTop_1 ?_
  refine v_iload_n C dX8_takesTop_4 rfl (lv_at hl 1 rfl) ?_
  refine v_aload_n C dX8_takesTop_5 rfl (lv_at hl 0 rfl) ?_
  refine v_getR C iX8_takesTop_X8 k_30 rfl rfl (j := 9) rfl (by decide) rfl (C.w 2 rfl) dX8_takesTop_6 ?_
  refine v_iload_n C dX8_takesTop_9 rfl (lv_at hl 1 rfl) ?_
  refine v_iald C k_39 rfl h1 dX8_takesTop_10 ?_
  refine v_bipush (v := (-9)) C dX8_takesTop_11 (by decide) ?_
  refine v_icmp_ne (tgt := 25) C dX8_takesTop_13 (by decide) (fun c_1 => ?_) (fun c_1 => ?_)
  · refine v_aload_n C dX8_takesTop_25 rfl (lv_at hl 0 rfl) ?_
    refine v_getR C iX8_takesTop_X8 k_30 rfl rfl (j := 9) rfl (by decide) rfl (C.w 2 rfl) dX8_takesTop_26 ?_
    refine v_iload_n C dX8_takesTop_29 rfl (lv_at hl 1 rfl) ?_
    refine v_iald C k_39 rfl h1 dX8_takesTop_30 ?_
    refine v_iast C k_32 rfl h1 dX8_takesTop_31 ?_
    refine v_aload_n C dX8_takesTop_32 rfl (lv_at hl 0 rfl) ?_
    refine v_getR C iX8_takesTop_X8 k_30 rfl rfl (j := 9) rfl (by decide) rfl (C.w 2 rfl) dX8_takesTop_33 ?_
    refine v_iload_n C dX8_takesTop_36 rfl (lv_at hl 1 rfl) ?_
    refine v_bipush (v := (-9)) C dX8_takesTop_37 (by decide) ?_
    refine v_iast C k_39 rfl h1 dX8_takesTop_39 ?_
    exact hret _ _ _ (Eq.symm ((if_neg c_1).trans rfl)) dX8_takesTop_40
  · refine v_aload_n C dX8_takesTop_16 rfl (lv_at hl 0 rfl) ?_
    refine v_getR C iX8_takesTop_X8 k_30 rfl rfl (j := 2) rfl (by decide) rfl (C.w 1 rfl) dX8_takesTop_17 ?_
    refine v_iload_n C dX8_takesTop_20 rfl (lv_at hl 1 rfl) ?_
    refine v_iald C k_32 rfl h1 dX8_takesTop_21 ?_
    refine v_goto (tgt := 31) C dX8_takesTop_22 (by decide) ?_
    refine v_iast C k_32 rfl h1 dX8_takesTop_31 ?_
    refine v_aload_n C dX8_takesTop_32 rfl (lv_at hl 0 rfl) ?_
    refine v_getR C iX8_takesTop_X8 k_30 rfl rfl (j := 9) rfl (by decide) rfl (C.w 2 rfl) dX8_takesTop_33 ?_
    refine v_iload_n C dX8_takesTop_36 rfl (lv_at hl 1 rfl) ?_
    refine v_bipush (v := (-9)) C dX8_takesTop_37 (by decide) ?_
    refine v_iast C k_39 rfl h1 dX8_takesTop_39 ?_
    exact hret _ _ _ (Eq.symm ((if_pos c_1).trans rfl)) dX8_takesTop_40
theorem X8_takesTop_s_fr (a1 : Int32) (t : ct_St) {r : Nat} (h32 : r ≠ 32) (h39 : r ≠ 39) : X8_takesTop_s a1 t r = t r := by
  dsimp only [X8_takesTop_s]
  (repeat' split) <;> simp only [us_ne, h32, h39, ne_eq, not_false_eq_true]
theorem iX8_stepsUp_X8 : ∀ w ∈ wsX80, w ∈ wsX8_stepsUp := fun _ h => (List.mem_cons_of_mem _ (List.mem_append_right _ h))
theorem hv_X8_stepsUp : yX8_stepsUp.cls = RX8 ∧ yX8_stepsUp.cls ≠ "java/lang/invoke/MethodHandle" ∧ yX8_stepsUp.cls ≠ "java/lang/invoke/VarHandle" ∧ (parseMethodDescriptor yX8_stepsUp.desc).map (fun d => d.parameters.length) = some 1 := by decide +kernel
def X8_stepsUp_s (a1 : Int32) (t : ct_St) : ct_St :=
  if t 35 (ix a1) = t 32 (ix a1) then
    let t2 := X8_goesOver_s a1 t
    let t3 := X8_takesTop_s a1 t2
    let t4 := us t3 35 (ix a1) 0
    t4
  else
    let t1 := us t 35 (ix a1) ((t 35 (ix a1)) + 1)
    t1
set_option maxHeartbeats 4000000 in
set_option maxRecDepth 100000 in
theorem c_X8_stepsUp (l : Launch) (g : ct_G) (t : ct_St) (a1 : Int32) (h1 : vp_in a1 4) : MV l g shG yX8_stepsUp wsX8_stepsUp (rmd 1) [.ref (g.2.1 30), .int a1] t (X8_stepsUp_s a1 t) := by
  refine MV.of (own := RX8) (cc := cX8_stepsUp) (maxL := 2) rfl (by decide) rfl (Nat.le_of_ble_eq_true rfl) (fun p e s m args below meth cd A Q C hret ls hl => ?_)
  have hl : lv_has ls 2 [(0, .ref (g.2.1 30)), (1, .int a1)] := hl
  refine v_aload_n C dX8_stepsUp_0 rfl (lv_at hl 0 rfl) ?_
  refine v_getR C iX8_stepsUp_X8 k_30 rfl rfl (j := 5) rfl (by decide) rfl (C.w 1 rfl) dX8_stepsUp_1 ?_
  refine v_iload_n C dX8_stepsUp_4 rfl (lv_at hl 1 rfl) ?_
  refine v_iald C k_35 rfl h1 dX8_stepsUp_5 ?_
  refine v_aload_n C dX8_stepsUp_6 rfl (lv_at hl 0 rfl) ?_
  refine v_getR C iX8_stepsUp_X8 k_30 rfl rfl (j := 2) rfl (by decide) rfl (C.w 2 rfl) dX8_stepsUp_7 ?_
  refine v_iload_n C dX8_stepsUp_10 rfl (lv_at hl 1 rfl) ?_
  refine v_iald C k_32 rfl h1 dX8_stepsUp_11 ?_
  refine v_icmp_ne (tgt := 35) C dX8_stepsUp_12 (by decide) (fun c_1 => ?_) (fun c_1 => ?_)
  · refine v_aload_n C dX8_stepsUp_35 rfl (lv_at hl 0 rfl) ?_
    refine v_getR C iX8_stepsUp_X8 k_30 rfl rfl (j := 5) rfl (by decide) rfl (C.w 1 rfl) dX8_stepsUp_36 ?_
    refine v_iload_n C dX8_stepsUp_39 rfl (lv_at hl 1 rfl) ?_
    refine v_dup2 C dX8_stepsUp_40 rfl rfl ?_
    refine v_iald C k_35 rfl h1 dX8_stepsUp_41 ?_
    refine v_iconst (v := 1) C dX8_stepsUp_42 (by decide) ?_
    refine v_iadd C dX8_stepsUp_43 ?_
    refine v_iast C k_35 rfl h1 dX8_stepsUp_44 ?_
    exact hret _ _ _ (Eq.symm ((if_neg c_1).trans rfl)) dX8_stepsUp_45
  · refine v_aload_n C dX8_stepsUp_15 rfl (lv_at hl 0 rfl) ?_
    refine v_iload_n C dX8_stepsUp_16 rfl (lv_at hl 1 rfl) ?_
    refine v_callv C (c_X8_goesOver l g _ _ h1) (cwV 1 C.2.2.2.2.1 gX8_stepsUp_X8_goesOver rfl rfl rfl hv_X8_goesOver ⟨Nat.le_of_ble_eq_true rfl, Nat.le_of_ble_eq_true rfl⟩) k_30 rfl rfl rfl rfl hl.1 rfl (Nat.le_of_ble_eq_true rfl) dX8_stepsUp_17 ⟨Nat.le_refl _, Nat.le_refl _⟩ ?_
    refine v_aload_n C dX8_stepsUp_20 rfl (lv_at hl 0 rfl) ?_
    refine v_iload_n C dX8_stepsUp_21 rfl (lv_at hl 1 rfl) ?_
    refine v_callv C (c_X8_takesTop l g _ _ h1) (cwV 1 C.2.2.2.2.1 gX8_stepsUp_X8_takesTop rfl rfl rfl hv_X8_takesTop ⟨Nat.le_of_ble_eq_true rfl, Nat.le_of_ble_eq_true rfl⟩) k_30 rfl rfl rfl rfl hl.1 rfl (Nat.le_of_ble_eq_true rfl) dX8_stepsUp_22 ⟨Nat.le_refl _, Nat.le_refl _⟩ ?_
    refine v_aload_n C dX8_stepsUp_25 rfl (lv_at hl 0 rfl) ?_
    refine v_getR C iX8_stepsUp_X8 k_30 rfl rfl (j := 5) rfl (by decide) rfl (C.w 1 rfl) dX8_stepsUp_26 ?_
    refine v_iload_n C dX8_stepsUp_29 rfl (lv_at hl 1 rfl) ?_
    refine v_iconst (v := 0) C dX8_stepsUp_30 (by decide) ?_
    refine v_iast C k_35 rfl h1 dX8_stepsUp_31 ?_
    refine v_goto (tgt := 45) C dX8_stepsUp_32 (by decide) ?_
    exact hret _ _ _ (Eq.symm ((if_pos c_1).trans rfl)) dX8_stepsUp_45
theorem X8_stepsUp_s_fr (a1 : Int32) (t : ct_St) {r : Nat} (h32 : r ≠ 32) (h35 : r ≠ 35) (h38 : r ≠ 38) (h39 : r ≠ 39) (h41 : r ≠ 41) : X8_stepsUp_s a1 t r = t r := by
  dsimp only [X8_stepsUp_s]
  (repeat' split) <;> simp only [us_ne, h32, h35, h38, h39, h41, ne_eq, not_false_eq_true, X8_goesOver_s_fr, X8_takesTop_s_fr]
theorem iX8_stepsDown_X8 : ∀ w ∈ wsX80, w ∈ wsX8_stepsDown := fun _ h => (List.mem_cons_of_mem _ (List.mem_append_right _ h))
theorem hv_X8_stepsDown : yX8_stepsDown.cls = RX8 ∧ yX8_stepsDown.cls ≠ "java/lang/invoke/MethodHandle" ∧ yX8_stepsDown.cls ≠ "java/lang/invoke/VarHandle" ∧ (parseMethodDescriptor yX8_stepsDown.desc).map (fun d => d.parameters.length) = some 1 := by decide +kernel
def X8_stepsDown_s (a1 : Int32) (t : ct_St) : ct_St :=
  if t 35 (ix a1) = 0 then
    let t2 := X8_goesOver_s a1 t
    let t3 := X8_takesTop_s a1 t2
    let t4 := us t3 35 (ix a1) (t3 32 (ix a1))
    t4
  else
    let t1 := us t 35 (ix a1) ((t 35 (ix a1)) - 1)
    t1
set_option maxHeartbeats 4000000 in
set_option maxRecDepth 100000 in
theorem c_X8_stepsDown (l : Launch) (g : ct_G) (t : ct_St) (a1 : Int32) (h1 : vp_in a1 4) : MV l g shG yX8_stepsDown wsX8_stepsDown (rmd 1) [.ref (g.2.1 30), .int a1] t (X8_stepsDown_s a1 t) := by
  refine MV.of (own := RX8) (cc := cX8_stepsDown) (maxL := 2) rfl (by decide) rfl (Nat.le_of_ble_eq_true rfl) (fun p e s m args below meth cd A Q C hret ls hl => ?_)
  have hl : lv_has ls 2 [(0, .ref (g.2.1 30)), (1, .int a1)] := hl
  refine v_aload_n C dX8_stepsDown_0 rfl (lv_at hl 0 rfl) ?_
  refine v_getR C iX8_stepsDown_X8 k_30 rfl rfl (j := 5) rfl (by decide) rfl (C.w 1 rfl) dX8_stepsDown_1 ?_
  refine v_iload_n C dX8_stepsDown_4 rfl (lv_at hl 1 rfl) ?_
  refine v_iald C k_35 rfl h1 dX8_stepsDown_5 ?_
  refine v_if_ne (tgt := 34) C dX8_stepsDown_6 (by decide) (fun c_1 => ?_) (fun c_1 => ?_)
  · refine v_aload_n C dX8_stepsDown_34 rfl (lv_at hl 0 rfl) ?_
    refine v_getR C iX8_stepsDown_X8 k_30 rfl rfl (j := 5) rfl (by decide) rfl (C.w 1 rfl) dX8_stepsDown_35 ?_
    refine v_iload_n C dX8_stepsDown_38 rfl (lv_at hl 1 rfl) ?_
    refine v_dup2 C dX8_stepsDown_39 rfl rfl ?_
    refine v_iald C k_35 rfl h1 dX8_stepsDown_40 ?_
    refine v_iconst (v := 1) C dX8_stepsDown_41 (by decide) ?_
    refine v_isub C dX8_stepsDown_42 ?_
    refine v_iast C k_35 rfl h1 dX8_stepsDown_43 ?_
    exact hret _ _ _ (Eq.symm ((if_neg c_1).trans rfl)) dX8_stepsDown_44
  · refine v_aload_n C dX8_stepsDown_9 rfl (lv_at hl 0 rfl) ?_
    refine v_iload_n C dX8_stepsDown_10 rfl (lv_at hl 1 rfl) ?_
    refine v_callv C (c_X8_goesOver l g _ _ h1) (cwV 1 C.2.2.2.2.1 gX8_stepsDown_X8_goesOver rfl rfl rfl hv_X8_goesOver ⟨Nat.le_of_ble_eq_true rfl, Nat.le_of_ble_eq_true rfl⟩) k_30 rfl rfl rfl rfl hl.1 rfl (Nat.le_of_ble_eq_true rfl) dX8_stepsDown_11 ⟨Nat.le_refl _, Nat.le_refl _⟩ ?_
    refine v_aload_n C dX8_stepsDown_14 rfl (lv_at hl 0 rfl) ?_
    refine v_iload_n C dX8_stepsDown_15 rfl (lv_at hl 1 rfl) ?_
    refine v_callv C (c_X8_takesTop l g _ _ h1) (cwV 1 C.2.2.2.2.1 gX8_stepsDown_X8_takesTop rfl rfl rfl hv_X8_takesTop ⟨Nat.le_of_ble_eq_true rfl, Nat.le_of_ble_eq_true rfl⟩) k_30 rfl rfl rfl rfl hl.1 rfl (Nat.le_of_ble_eq_true rfl) dX8_stepsDown_16 ⟨Nat.le_refl _, Nat.le_refl _⟩ ?_
    refine v_aload_n C dX8_stepsDown_19 rfl (lv_at hl 0 rfl) ?_
    refine v_getR C iX8_stepsDown_X8 k_30 rfl rfl (j := 5) rfl (by decide) rfl (C.w 1 rfl) dX8_stepsDown_20 ?_
    refine v_iload_n C dX8_stepsDown_23 rfl (lv_at hl 1 rfl) ?_
    refine v_aload_n C dX8_stepsDown_24 rfl (lv_at hl 0 rfl) ?_
    refine v_getR C iX8_stepsDown_X8 k_30 rfl rfl (j := 2) rfl (by decide) rfl (C.w 2 rfl) dX8_stepsDown_25 ?_
    refine v_iload_n C dX8_stepsDown_28 rfl (lv_at hl 1 rfl) ?_
    refine v_iald C k_32 rfl h1 dX8_stepsDown_29 ?_
    refine v_iast C k_35 rfl h1 dX8_stepsDown_30 ?_
    refine v_goto (tgt := 44) C dX8_stepsDown_31 (by decide) ?_
    exact hret _ _ _ (Eq.symm ((if_pos c_1).trans rfl)) dX8_stepsDown_44
theorem X8_stepsDown_s_fr (a1 : Int32) (t : ct_St) {r : Nat} (h32 : r ≠ 32) (h35 : r ≠ 35) (h38 : r ≠ 38) (h39 : r ≠ 39) (h41 : r ≠ 41) : X8_stepsDown_s a1 t r = t r := by
  dsimp only [X8_stepsDown_s]
  (repeat' split) <;> simp only [us_ne, h32, h35, h38, h39, h41, ne_eq, not_false_eq_true, X8_goesOver_s_fr, X8_takesTop_s_fr]
theorem iX8_stepsBoth_X8 : ∀ w ∈ wsX80, w ∈ wsX8_stepsBoth := fun _ h => (List.mem_cons_of_mem _ (List.mem_append_right _ h))
theorem hv_X8_stepsBoth : yX8_stepsBoth.cls = RX8 ∧ yX8_stepsBoth.cls ≠ "java/lang/invoke/MethodHandle" ∧ yX8_stepsBoth.cls ≠ "java/lang/invoke/VarHandle" ∧ (parseMethodDescriptor yX8_stepsBoth.desc).map (fun d => d.parameters.length) = some 1 := by decide +kernel
def X8_stepsBoth_s (a1 : Int32) (t : ct_St) : ct_St :=
  if t 37 (ix a1) = 1 then
    if t 35 (ix a1) = t 32 (ix a1) then
      let t15 := X8_goesOver_s a1 t
      let t16 := us t15 37 (ix a1) 0
      if t16 37 (ix a1) = 1 then
        let t18 := us t16 35 (ix a1) ((t16 35 (ix a1)) + 1)
        t18
      else
        let t17 := us t16 35 (ix a1) ((t16 35 (ix a1)) + (-1))
        t17
    else
      if t 37 (ix a1) = 0 then
        if t 35 (ix a1) = 0 then
          let t10 := X8_goesOver_s a1 t
          let t11 := us t10 37 (ix a1) 1
          let t12 := X8_takesTop_s a1 t11
          if t12 37 (ix a1) = 1 then
            let t14 := us t12 35 (ix a1) ((t12 35 (ix a1)) + 1)
            t14
          else
            let t13 := us t12 35 (ix a1) ((t12 35 (ix a1)) + (-1))
            t13
        else
          let t9 := us t 35 (ix a1) ((t 35 (ix a1)) + 1)
          t9
      else
        let t8 := us t 35 (ix a1) ((t 35 (ix a1)) + 1)
        t8
  else
    if t 37 (ix a1) = 0 then
      if t 35 (ix a1) = 0 then
        let t3 := X8_goesOver_s a1 t
        let t4 := us t3 37 (ix a1) 1
        let t5 := X8_takesTop_s a1 t4
        if t5 37 (ix a1) = 1 then
          let t7 := us t5 35 (ix a1) ((t5 35 (ix a1)) + 1)
          t7
        else
          let t6 := us t5 35 (ix a1) ((t5 35 (ix a1)) + (-1))
          t6
      else
        let t2 := us t 35 (ix a1) ((t 35 (ix a1)) + (-1))
        t2
    else
      let t1 := us t 35 (ix a1) ((t 35 (ix a1)) + (-1))
      t1
set_option maxHeartbeats 4000000 in
set_option maxRecDepth 100000 in
theorem c_X8_stepsBoth (l : Launch) (g : ct_G) (t : ct_St) (a1 : Int32) (h1 : vp_in a1 4) : MV l g shG yX8_stepsBoth wsX8_stepsBoth (rmd 1) [.ref (g.2.1 30), .int a1] t (X8_stepsBoth_s a1 t) := by
  refine MV.of (own := RX8) (cc := cX8_stepsBoth) (maxL := 2) rfl (by decide) rfl (Nat.le_of_ble_eq_true rfl) (fun p e s m args below meth cd A Q C hret ls hl => ?_)
  have hl : lv_has ls 2 [(0, .ref (g.2.1 30)), (1, .int a1)] := hl
  refine v_aload_n C dX8_stepsBoth_0 rfl (lv_at hl 0 rfl) ?_
  refine v_getR C iX8_stepsBoth_X8 k_30 rfl rfl (j := 7) rfl (by decide) rfl (C.w 1 rfl) dX8_stepsBoth_1 ?_
  refine v_iload_n C dX8_stepsBoth_4 rfl (lv_at hl 1 rfl) ?_
  refine v_iald C k_37 rfl h1 dX8_stepsBoth_5 ?_
  refine v_iconst (v := 1) C dX8_stepsBoth_6 (by decide) ?_
  refine v_icmp_ne (tgt := 40) C dX8_stepsBoth_7 (by decide) (fun c_1 => ?_) (fun c_1 => ?_)
  · refine v_aload_n C dX8_stepsBoth_40 rfl (lv_at hl 0 rfl) ?_
    refine v_getR C iX8_stepsBoth_X8 k_30 rfl rfl (j := 7) rfl (by decide) rfl (C.w 1 rfl) dX8_stepsBoth_41 ?_
    refine v_iload_n C dX8_stepsBoth_44 rfl (lv_at hl 1 rfl) ?_
    refine v_iald C k_37 rfl h1 dX8_stepsBoth_45 ?_
    refine v_if_ne (tgt := 75) C dX8_stepsBoth_46 (by decide) (fun c_2 => ?_) (fun c_2 => ?_)
    · refine v_aload_n C dX8_stepsBoth_75 rfl (lv_at hl 0 rfl) ?_
      refine v_getR C iX8_stepsBoth_X8 k_30 rfl rfl (j := 5) rfl (by decide) rfl (C.w 2 rfl) dX8_stepsBoth_76 ?_
      refine v_iload_n C dX8_stepsBoth_79 rfl (lv_at hl 1 rfl) ?_
      refine v_dup2 C dX8_stepsBoth_80 rfl rfl ?_
      refine v_iald C k_35 rfl h1 dX8_stepsBoth_81 ?_
      refine v_aload_n C dX8_stepsBoth_82 rfl (lv_at hl 0 rfl) ?_
      refine v_getR C iX8_stepsBoth_X8 k_30 rfl rfl (j := 7) rfl (by decide) rfl (C.w 1 rfl) dX8_stepsBoth_83 ?_
      refine v_iload_n C dX8_stepsBoth_86 rfl (lv_at hl 1 rfl) ?_
      refine v_iald C k_37 rfl h1 dX8_stepsBoth_87 ?_
      refine v_iconst (v := 1) C dX8_stepsBoth_88 (by decide) ?_
      refine v_icmp_ne (tgt := 96) C dX8_stepsBoth_89 (by decide) (fun _ => ?_) (fun h => absurd h (c_1))
      refine v_iconst (v := (-1)) C dX8_stepsBoth_96 (by decide) ?_
      refine v_iadd C dX8_stepsBoth_97 ?_
      refine v_iast C k_35 rfl h1 dX8_stepsBoth_98 ?_
      exact hret _ _ _ (Eq.symm ((if_neg c_1).trans ((if_neg c_2).trans rfl))) dX8_stepsBoth_99
    · refine v_aload_n C dX8_stepsBoth_49 rfl (lv_at hl 0 rfl) ?_
      refine v_getR C iX8_stepsBoth_X8 k_30 rfl rfl (j := 5) rfl (by decide) rfl (C.w 2 rfl) dX8_stepsBoth_50 ?_
      refine v_iload_n C dX8_stepsBoth_53 rfl (lv_at hl 1 rfl) ?_
      refine v_iald C k_35 rfl h1 dX8_stepsBoth_54 ?_
      refine v_if_ne (tgt := 75) C dX8_stepsBoth_55 (by decide) (fun c_4 => ?_) (fun c_4 => ?_)
      · refine v_aload_n C dX8_stepsBoth_75 rfl (lv_at hl 0 rfl) ?_
        refine v_getR C iX8_stepsBoth_X8 k_30 rfl rfl (j := 5) rfl (by decide) rfl (C.w 2 rfl) dX8_stepsBoth_76 ?_
        refine v_iload_n C dX8_stepsBoth_79 rfl (lv_at hl 1 rfl) ?_
        refine v_dup2 C dX8_stepsBoth_80 rfl rfl ?_
        refine v_iald C k_35 rfl h1 dX8_stepsBoth_81 ?_
        refine v_aload_n C dX8_stepsBoth_82 rfl (lv_at hl 0 rfl) ?_
        refine v_getR C iX8_stepsBoth_X8 k_30 rfl rfl (j := 7) rfl (by decide) rfl (C.w 1 rfl) dX8_stepsBoth_83 ?_
        refine v_iload_n C dX8_stepsBoth_86 rfl (lv_at hl 1 rfl) ?_
        refine v_iald C k_37 rfl h1 dX8_stepsBoth_87 ?_
        refine v_iconst (v := 1) C dX8_stepsBoth_88 (by decide) ?_
        refine v_icmp_ne (tgt := 96) C dX8_stepsBoth_89 (by decide) (fun _ => ?_) (fun h => absurd h (c_1))
        refine v_iconst (v := (-1)) C dX8_stepsBoth_96 (by decide) ?_
        refine v_iadd C dX8_stepsBoth_97 ?_
        refine v_iast C k_35 rfl h1 dX8_stepsBoth_98 ?_
        exact hret _ _ _ (Eq.symm ((if_neg c_1).trans ((if_pos c_2).trans ((if_neg c_4).trans rfl)))) dX8_stepsBoth_99
      · refine v_aload_n C dX8_stepsBoth_58 rfl (lv_at hl 0 rfl) ?_
        refine v_iload_n C dX8_stepsBoth_59 rfl (lv_at hl 1 rfl) ?_
        refine v_callv C (c_X8_goesOver l g _ _ h1) (cwV 1 C.2.2.2.2.1 gX8_stepsBoth_X8_goesOver rfl rfl rfl hv_X8_goesOver ⟨Nat.le_of_ble_eq_true rfl, Nat.le_of_ble_eq_true rfl⟩) k_30 rfl rfl rfl rfl hl.1 rfl (Nat.le_of_ble_eq_true rfl) dX8_stepsBoth_60 ⟨Nat.le_refl _, Nat.le_refl _⟩ ?_
        refine v_aload_n C dX8_stepsBoth_63 rfl (lv_at hl 0 rfl) ?_
        refine v_getR C iX8_stepsBoth_X8 k_30 rfl rfl (j := 7) rfl (by decide) rfl (C.w 1 rfl) dX8_stepsBoth_64 ?_
        refine v_iload_n C dX8_stepsBoth_67 rfl (lv_at hl 1 rfl) ?_
        refine v_iconst (v := 1) C dX8_stepsBoth_68 (by decide) ?_
        refine v_iast C k_37 rfl h1 dX8_stepsBoth_69 ?_
        refine v_aload_n C dX8_stepsBoth_70 rfl (lv_at hl 0 rfl) ?_
        refine v_iload_n C dX8_stepsBoth_71 rfl (lv_at hl 1 rfl) ?_
        refine v_callv C (c_X8_takesTop l g _ _ h1) (cwV 1 C.2.2.2.2.1 gX8_stepsBoth_X8_takesTop rfl rfl rfl hv_X8_takesTop ⟨Nat.le_of_ble_eq_true rfl, Nat.le_of_ble_eq_true rfl⟩) k_30 rfl rfl rfl rfl hl.1 rfl (Nat.le_of_ble_eq_true rfl) dX8_stepsBoth_72 ⟨Nat.le_refl _, Nat.le_refl _⟩ ?_
        refine v_aload_n C dX8_stepsBoth_75 rfl (lv_at hl 0 rfl) ?_
        refine v_getR C iX8_stepsBoth_X8 k_30 rfl rfl (j := 5) rfl (by decide) rfl (C.w 2 rfl) dX8_stepsBoth_76 ?_
        refine v_iload_n C dX8_stepsBoth_79 rfl (lv_at hl 1 rfl) ?_
        refine v_dup2 C dX8_stepsBoth_80 rfl rfl ?_
        refine v_iald C k_35 rfl h1 dX8_stepsBoth_81 ?_
        refine v_aload_n C dX8_stepsBoth_82 rfl (lv_at hl 0 rfl) ?_
        refine v_getR C iX8_stepsBoth_X8 k_30 rfl rfl (j := 7) rfl (by decide) rfl (C.w 1 rfl) dX8_stepsBoth_83 ?_
        refine v_iload_n C dX8_stepsBoth_86 rfl (lv_at hl 1 rfl) ?_
        refine v_iald C k_37 rfl h1 dX8_stepsBoth_87 ?_
        refine v_iconst (v := 1) C dX8_stepsBoth_88 (by decide) ?_
        refine v_icmp_ne (tgt := 96) C dX8_stepsBoth_89 (by decide) (fun c_6 => ?_) (fun c_6 => ?_)
        · refine v_iconst (v := (-1)) C dX8_stepsBoth_96 (by decide) ?_
          refine v_iadd C dX8_stepsBoth_97 ?_
          refine v_iast C k_35 rfl h1 dX8_stepsBoth_98 ?_
          exact hret _ _ _ (Eq.symm ((if_neg c_1).trans ((if_pos c_2).trans ((if_pos c_4).trans ((if_neg c_6).trans rfl))))) dX8_stepsBoth_99
        · refine v_iconst (v := 1) C dX8_stepsBoth_92 (by decide) ?_
          refine v_goto (tgt := 97) C dX8_stepsBoth_93 (by decide) ?_
          refine v_iadd C dX8_stepsBoth_97 ?_
          refine v_iast C k_35 rfl h1 dX8_stepsBoth_98 ?_
          exact hret _ _ _ (Eq.symm ((if_neg c_1).trans ((if_pos c_2).trans ((if_pos c_4).trans ((if_pos c_6).trans rfl))))) dX8_stepsBoth_99
  · refine v_aload_n C dX8_stepsBoth_10 rfl (lv_at hl 0 rfl) ?_
    refine v_getR C iX8_stepsBoth_X8 k_30 rfl rfl (j := 5) rfl (by decide) rfl (C.w 2 rfl) dX8_stepsBoth_11 ?_
    refine v_iload_n C dX8_stepsBoth_14 rfl (lv_at hl 1 rfl) ?_
    refine v_iald C k_35 rfl h1 dX8_stepsBoth_15 ?_
    refine v_aload_n C dX8_stepsBoth_16 rfl (lv_at hl 0 rfl) ?_
    refine v_getR C iX8_stepsBoth_X8 k_30 rfl rfl (j := 2) rfl (by decide) rfl (C.w 3 rfl) dX8_stepsBoth_17 ?_
    refine v_iload_n C dX8_stepsBoth_20 rfl (lv_at hl 1 rfl) ?_
    refine v_iald C k_32 rfl h1 dX8_stepsBoth_21 ?_
    refine v_icmp_ne (tgt := 40) C dX8_stepsBoth_22 (by decide) (fun c_7 => ?_) (fun c_7 => ?_)
    · refine v_aload_n C dX8_stepsBoth_40 rfl (lv_at hl 0 rfl) ?_
      refine v_getR C iX8_stepsBoth_X8 k_30 rfl rfl (j := 7) rfl (by decide) rfl (C.w 1 rfl) dX8_stepsBoth_41 ?_
      refine v_iload_n C dX8_stepsBoth_44 rfl (lv_at hl 1 rfl) ?_
      refine v_iald C k_37 rfl h1 dX8_stepsBoth_45 ?_
      refine v_if_ne (tgt := 75) C dX8_stepsBoth_46 (by decide) (fun c_8 => ?_) (fun c_8 => ?_)
      · refine v_aload_n C dX8_stepsBoth_75 rfl (lv_at hl 0 rfl) ?_
        refine v_getR C iX8_stepsBoth_X8 k_30 rfl rfl (j := 5) rfl (by decide) rfl (C.w 2 rfl) dX8_stepsBoth_76 ?_
        refine v_iload_n C dX8_stepsBoth_79 rfl (lv_at hl 1 rfl) ?_
        refine v_dup2 C dX8_stepsBoth_80 rfl rfl ?_
        refine v_iald C k_35 rfl h1 dX8_stepsBoth_81 ?_
        refine v_aload_n C dX8_stepsBoth_82 rfl (lv_at hl 0 rfl) ?_
        refine v_getR C iX8_stepsBoth_X8 k_30 rfl rfl (j := 7) rfl (by decide) rfl (C.w 1 rfl) dX8_stepsBoth_83 ?_
        refine v_iload_n C dX8_stepsBoth_86 rfl (lv_at hl 1 rfl) ?_
        refine v_iald C k_37 rfl h1 dX8_stepsBoth_87 ?_
        refine v_iconst (v := 1) C dX8_stepsBoth_88 (by decide) ?_
        refine v_icmp_ne (tgt := 96) C dX8_stepsBoth_89 (by decide) (fun h => absurd (c_1) h) (fun _ => ?_)
        refine v_iconst (v := 1) C dX8_stepsBoth_92 (by decide) ?_
        refine v_goto (tgt := 97) C dX8_stepsBoth_93 (by decide) ?_
        refine v_iadd C dX8_stepsBoth_97 ?_
        refine v_iast C k_35 rfl h1 dX8_stepsBoth_98 ?_
        exact hret _ _ _ (Eq.symm ((if_pos c_1).trans ((if_neg c_7).trans ((if_neg c_8).trans rfl)))) dX8_stepsBoth_99
      · refine v_aload_n C dX8_stepsBoth_49 rfl (lv_at hl 0 rfl) ?_
        refine v_getR C iX8_stepsBoth_X8 k_30 rfl rfl (j := 5) rfl (by decide) rfl (C.w 2 rfl) dX8_stepsBoth_50 ?_
        refine v_iload_n C dX8_stepsBoth_53 rfl (lv_at hl 1 rfl) ?_
        refine v_iald C k_35 rfl h1 dX8_stepsBoth_54 ?_
        refine v_if_ne (tgt := 75) C dX8_stepsBoth_55 (by decide) (fun c_10 => ?_) (fun c_10 => ?_)
        · refine v_aload_n C dX8_stepsBoth_75 rfl (lv_at hl 0 rfl) ?_
          refine v_getR C iX8_stepsBoth_X8 k_30 rfl rfl (j := 5) rfl (by decide) rfl (C.w 2 rfl) dX8_stepsBoth_76 ?_
          refine v_iload_n C dX8_stepsBoth_79 rfl (lv_at hl 1 rfl) ?_
          refine v_dup2 C dX8_stepsBoth_80 rfl rfl ?_
          refine v_iald C k_35 rfl h1 dX8_stepsBoth_81 ?_
          refine v_aload_n C dX8_stepsBoth_82 rfl (lv_at hl 0 rfl) ?_
          refine v_getR C iX8_stepsBoth_X8 k_30 rfl rfl (j := 7) rfl (by decide) rfl (C.w 1 rfl) dX8_stepsBoth_83 ?_
          refine v_iload_n C dX8_stepsBoth_86 rfl (lv_at hl 1 rfl) ?_
          refine v_iald C k_37 rfl h1 dX8_stepsBoth_87 ?_
          refine v_iconst (v := 1) C dX8_stepsBoth_88 (by decide) ?_
          refine v_icmp_ne (tgt := 96) C dX8_stepsBoth_89 (by decide) (fun h => absurd (c_1) h) (fun _ => ?_)
          refine v_iconst (v := 1) C dX8_stepsBoth_92 (by decide) ?_
          refine v_goto (tgt := 97) C dX8_stepsBoth_93 (by decide) ?_
          refine v_iadd C dX8_stepsBoth_97 ?_
          refine v_iast C k_35 rfl h1 dX8_stepsBoth_98 ?_
          exact hret _ _ _ (Eq.symm ((if_pos c_1).trans ((if_neg c_7).trans ((if_pos c_8).trans ((if_neg c_10).trans rfl))))) dX8_stepsBoth_99
        · refine v_aload_n C dX8_stepsBoth_58 rfl (lv_at hl 0 rfl) ?_
          refine v_iload_n C dX8_stepsBoth_59 rfl (lv_at hl 1 rfl) ?_
          refine v_callv C (c_X8_goesOver l g _ _ h1) (cwV 1 C.2.2.2.2.1 gX8_stepsBoth_X8_goesOver rfl rfl rfl hv_X8_goesOver ⟨Nat.le_of_ble_eq_true rfl, Nat.le_of_ble_eq_true rfl⟩) k_30 rfl rfl rfl rfl hl.1 rfl (Nat.le_of_ble_eq_true rfl) dX8_stepsBoth_60 ⟨Nat.le_refl _, Nat.le_refl _⟩ ?_
          refine v_aload_n C dX8_stepsBoth_63 rfl (lv_at hl 0 rfl) ?_
          refine v_getR C iX8_stepsBoth_X8 k_30 rfl rfl (j := 7) rfl (by decide) rfl (C.w 1 rfl) dX8_stepsBoth_64 ?_
          refine v_iload_n C dX8_stepsBoth_67 rfl (lv_at hl 1 rfl) ?_
          refine v_iconst (v := 1) C dX8_stepsBoth_68 (by decide) ?_
          refine v_iast C k_37 rfl h1 dX8_stepsBoth_69 ?_
          refine v_aload_n C dX8_stepsBoth_70 rfl (lv_at hl 0 rfl) ?_
          refine v_iload_n C dX8_stepsBoth_71 rfl (lv_at hl 1 rfl) ?_
          refine v_callv C (c_X8_takesTop l g _ _ h1) (cwV 1 C.2.2.2.2.1 gX8_stepsBoth_X8_takesTop rfl rfl rfl hv_X8_takesTop ⟨Nat.le_of_ble_eq_true rfl, Nat.le_of_ble_eq_true rfl⟩) k_30 rfl rfl rfl rfl hl.1 rfl (Nat.le_of_ble_eq_true rfl) dX8_stepsBoth_72 ⟨Nat.le_refl _, Nat.le_refl _⟩ ?_
          refine v_aload_n C dX8_stepsBoth_75 rfl (lv_at hl 0 rfl) ?_
          refine v_getR C iX8_stepsBoth_X8 k_30 rfl rfl (j := 5) rfl (by decide) rfl (C.w 2 rfl) dX8_stepsBoth_76 ?_
          refine v_iload_n C dX8_stepsBoth_79 rfl (lv_at hl 1 rfl) ?_
          refine v_dup2 C dX8_stepsBoth_80 rfl rfl ?_
          refine v_iald C k_35 rfl h1 dX8_stepsBoth_81 ?_
          refine v_aload_n C dX8_stepsBoth_82 rfl (lv_at hl 0 rfl) ?_
          refine v_getR C iX8_stepsBoth_X8 k_30 rfl rfl (j := 7) rfl (by decide) rfl (C.w 1 rfl) dX8_stepsBoth_83 ?_
          refine v_iload_n C dX8_stepsBoth_86 rfl (lv_at hl 1 rfl) ?_
          refine v_iald C k_37 rfl h1 dX8_stepsBoth_87 ?_
          refine v_iconst (v := 1) C dX8_stepsBoth_88 (by decide) ?_
          refine v_icmp_ne (tgt := 96) C dX8_stepsBoth_89 (by decide) (fun c_12 => ?_) (fun c_12 => ?_)
          · refine v_iconst (v := (-1)) C dX8_stepsBoth_96 (by decide) ?_
            refine v_iadd C dX8_stepsBoth_97 ?_
            refine v_iast C k_35 rfl h1 dX8_stepsBoth_98 ?_
            exact hret _ _ _ (Eq.symm ((if_pos c_1).trans ((if_neg c_7).trans ((if_pos c_8).trans ((if_pos c_10).trans ((if_neg c_12).trans rfl)))))) dX8_stepsBoth_99
          · refine v_iconst (v := 1) C dX8_stepsBoth_92 (by decide) ?_
            refine v_goto (tgt := 97) C dX8_stepsBoth_93 (by decide) ?_
            refine v_iadd C dX8_stepsBoth_97 ?_
            refine v_iast C k_35 rfl h1 dX8_stepsBoth_98 ?_
            exact hret _ _ _ (Eq.symm ((if_pos c_1).trans ((if_neg c_7).trans ((if_pos c_8).trans ((if_pos c_10).trans ((if_pos c_12).trans rfl)))))) dX8_stepsBoth_99
    · refine v_aload_n C dX8_stepsBoth_25 rfl (lv_at hl 0 rfl) ?_
      refine v_iload_n C dX8_stepsBoth_26 rfl (lv_at hl 1 rfl) ?_
      refine v_callv C (c_X8_goesOver l g _ _ h1) (cwV 1 C.2.2.2.2.1 gX8_stepsBoth_X8_goesOver rfl rfl rfl hv_X8_goesOver ⟨Nat.le_of_ble_eq_true rfl, Nat.le_of_ble_eq_true rfl⟩) k_30 rfl rfl rfl rfl hl.1 rfl (Nat.le_of_ble_eq_true rfl) dX8_stepsBoth_27 ⟨Nat.le_refl _, Nat.le_refl _⟩ ?_
      refine v_aload_n C dX8_stepsBoth_30 rfl (lv_at hl 0 rfl) ?_
      refine v_getR C iX8_stepsBoth_X8 k_30 rfl rfl (j := 7) rfl (by decide) rfl (C.w 1 rfl) dX8_stepsBoth_31 ?_
      refine v_iload_n C dX8_stepsBoth_34 rfl (lv_at hl 1 rfl) ?_
      refine v_iconst (v := 0) C dX8_stepsBoth_35 (by decide) ?_
      refine v_iast C k_37 rfl h1 dX8_stepsBoth_36 ?_
      refine v_goto (tgt := 75) C dX8_stepsBoth_37 (by decide) ?_
      refine v_aload_n C dX8_stepsBoth_75 rfl (lv_at hl 0 rfl) ?_
      refine v_getR C iX8_stepsBoth_X8 k_30 rfl rfl (j := 5) rfl (by decide) rfl (C.w 2 rfl) dX8_stepsBoth_76 ?_
      refine v_iload_n C dX8_stepsBoth_79 rfl (lv_at hl 1 rfl) ?_
      refine v_dup2 C dX8_stepsBoth_80 rfl rfl ?_
      refine v_iald C k_35 rfl h1 dX8_stepsBoth_81 ?_
      refine v_aload_n C dX8_stepsBoth_82 rfl (lv_at hl 0 rfl) ?_
      refine v_getR C iX8_stepsBoth_X8 k_30 rfl rfl (j := 7) rfl (by decide) rfl (C.w 1 rfl) dX8_stepsBoth_83 ?_
      refine v_iload_n C dX8_stepsBoth_86 rfl (lv_at hl 1 rfl) ?_
      refine v_iald C k_37 rfl h1 dX8_stepsBoth_87 ?_
      refine v_iconst (v := 1) C dX8_stepsBoth_88 (by decide) ?_
      refine v_icmp_ne (tgt := 96) C dX8_stepsBoth_89 (by decide) (fun c_13 => ?_) (fun c_13 => ?_)
      · refine v_iconst (v := (-1)) C dX8_stepsBoth_96 (by decide) ?_
        refine v_iadd C dX8_stepsBoth_97 ?_
        refine v_iast C k_35 rfl h1 dX8_stepsBoth_98 ?_
        exact hret _ _ _ (Eq.symm ((if_pos c_1).trans ((if_pos c_7).trans ((if_neg c_13).trans rfl)))) dX8_stepsBoth_99
      · refine v_iconst (v := 1) C dX8_stepsBoth_92 (by decide) ?_
        refine v_goto (tgt := 97) C dX8_stepsBoth_93 (by decide) ?_
        refine v_iadd C dX8_stepsBoth_97 ?_
        refine v_iast C k_35 rfl h1 dX8_stepsBoth_98 ?_
        exact hret _ _ _ (Eq.symm ((if_pos c_1).trans ((if_pos c_7).trans ((if_pos c_13).trans rfl)))) dX8_stepsBoth_99
theorem X8_stepsBoth_s_fr (a1 : Int32) (t : ct_St) {r : Nat} (h32 : r ≠ 32) (h35 : r ≠ 35) (h37 : r ≠ 37) (h38 : r ≠ 38) (h39 : r ≠ 39) (h41 : r ≠ 41) : X8_stepsBoth_s a1 t r = t r := by
  dsimp only [X8_stepsBoth_s]
  (repeat' split) <;> simp only [us_ne, h32, h35, h37, h38, h39, h41, ne_eq, not_false_eq_true, X8_goesOver_s_fr, X8_takesTop_s_fr]
theorem iX8_steps_X8 : ∀ w ∈ wsX80, w ∈ wsX8_steps := fun _ h => (List.mem_cons_of_mem _ (List.mem_append_right _ h))
theorem hv_X8_steps : yX8_steps.cls = RX8 ∧ yX8_steps.cls ≠ "java/lang/invoke/MethodHandle" ∧ yX8_steps.cls ≠ "java/lang/invoke/VarHandle" ∧ (parseMethodDescriptor yX8_steps.desc).map (fun d => d.parameters.length) = some 1 := by decide +kernel
def X8_steps_s (a1 : Int32) (t : ct_St) : ct_St :=
  let t1 := us t 40 (ix a1) 1
  if t1 31 (ix a1) = 0 then
    let t4 := X8_stepsUp_s a1 t1
    t4
  else
    if t1 31 (ix a1) = 1 then
      let t3 := X8_stepsDown_s a1 t1
      t3
    else
      let t2 := X8_stepsBoth_s a1 t1
      t2
set_option maxHeartbeats 4000000 in
set_option maxRecDepth 100000 in
theorem c_X8_steps (l : Launch) (g : ct_G) (t : ct_St) (a1 : Int32) (h1 : vp_in a1 4) : MV l g shG yX8_steps wsX8_steps (rmd 2) [.ref (g.2.1 30), .int a1] t (X8_steps_s a1 t) := by
  refine MV.of (own := RX8) (cc := cX8_steps) (maxL := 2) rfl (by decide) rfl (Nat.le_of_ble_eq_true rfl) (fun p e s m args below meth cd A Q C hret ls hl => ?_)
  have hl : lv_has ls 2 [(0, .ref (g.2.1 30)), (1, .int a1)] := hl
  refine v_aload_n C dX8_steps_0 rfl (lv_at hl 0 rfl) ?_
  refine v_getR C iX8_steps_X8 k_30 rfl rfl (j := 10) rfl (by decide) rfl (C.w 1 rfl) dX8_steps_1 ?_
  refine v_iload_n C dX8_steps_4 rfl (lv_at hl 1 rfl) ?_
  refine v_iconst (v := 1) C dX8_steps_5 (by decide) ?_
  refine v_zast (z := 1) C k_40 rfl h1 (by decide) dX8_steps_6 ?_
  refine v_aload_n C dX8_steps_7 rfl (lv_at hl 0 rfl) ?_
  refine v_getR C iX8_steps_X8 k_30 rfl rfl (j := 1) rfl (by decide) rfl (C.w 2 rfl) dX8_steps_8 ?_
  refine v_iload_n C dX8_steps_11 rfl (lv_at hl 1 rfl) ?_
  refine v_iald C k_31 rfl h1 dX8_steps_12 ?_
  refine v_if_ne (tgt := 24) C dX8_steps_13 (by decide) (fun c_1 => ?_) (fun c_1 => ?_)
  · refine v_aload_n C dX8_steps_24 rfl (lv_at hl 0 rfl) ?_
    refine v_getR C iX8_steps_X8 k_30 rfl rfl (j := 1) rfl (by decide) rfl (C.w 2 rfl) dX8_steps_25 ?_
    refine v_iload_n C dX8_steps_28 rfl (lv_at hl 1 rfl) ?_
    refine v_iald C k_31 rfl h1 dX8_steps_29 ?_
    refine v_iconst (v := 1) C dX8_steps_30 (by decide) ?_
    refine v_icmp_ne (tgt := 42) C dX8_steps_31 (by decide) (fun c_2 => ?_) (fun c_2 => ?_)
    · refine v_aload_n C dX8_steps_42 rfl (lv_at hl 0 rfl) ?_
      refine v_iload_n C dX8_steps_43 rfl (lv_at hl 1 rfl) ?_
      refine v_callv C (c_X8_stepsBoth l g _ _ h1) (cwV 1 C.2.2.2.2.1 gX8_steps_X8_stepsBoth rfl rfl rfl hv_X8_stepsBoth ⟨Nat.le_of_ble_eq_true rfl, Nat.le_of_ble_eq_true rfl⟩) k_30 rfl rfl rfl rfl hl.1 rfl (Nat.le_of_ble_eq_true rfl) dX8_steps_44 ⟨Nat.le_refl _, Nat.le_refl _⟩ ?_
      exact hret _ _ _ (Eq.symm ((if_neg c_1).trans ((if_neg c_2).trans rfl))) dX8_steps_47
    · refine v_aload_n C dX8_steps_34 rfl (lv_at hl 0 rfl) ?_
      refine v_iload_n C dX8_steps_35 rfl (lv_at hl 1 rfl) ?_
      refine v_callv C (c_X8_stepsDown l g _ _ h1) (cwV 1 C.2.2.2.2.1 gX8_steps_X8_stepsDown rfl rfl rfl hv_X8_stepsDown ⟨Nat.le_of_ble_eq_true rfl, Nat.le_of_ble_eq_true rfl⟩) k_30 rfl rfl rfl rfl hl.1 rfl (Nat.le_of_ble_eq_true rfl) dX8_steps_36 ⟨Nat.le_refl _, Nat.le_refl _⟩ ?_
      refine v_goto (tgt := 47) C dX8_steps_39 (by decide) ?_
      exact hret _ _ _ (Eq.symm ((if_neg c_1).trans ((if_pos c_2).trans rfl))) dX8_steps_47
  · refine v_aload_n C dX8_steps_16 rfl (lv_at hl 0 rfl) ?_
    refine v_iload_n C dX8_steps_17 rfl (lv_at hl 1 rfl) ?_
    refine v_callv C (c_X8_stepsUp l g _ _ h1) (cwV 1 C.2.2.2.2.1 gX8_steps_X8_stepsUp rfl rfl rfl hv_X8_stepsUp ⟨Nat.le_of_ble_eq_true rfl, Nat.le_of_ble_eq_true rfl⟩) k_30 rfl rfl rfl rfl hl.1 rfl (Nat.le_of_ble_eq_true rfl) dX8_steps_18 ⟨Nat.le_refl _, Nat.le_refl _⟩ ?_
    refine v_goto (tgt := 47) C dX8_steps_21 (by decide) ?_
    exact hret _ _ _ (Eq.symm ((if_pos c_1).trans rfl)) dX8_steps_47
theorem go41 (a1 : Int32) (t : ct_St) (h : bl (t 41)) : bl (X8_goesOver_s a1 t 41) := bl_up h (Or.inr rfl)
theorem tk41 (a1 : Int32) (t : ct_St) (h : bl (t 41)) : bl (X8_takesTop_s a1 t 41) := by
  rw [X8_takesTop_s_fr a1 t (by decide) (by decide)]; exact h
theorem su41 (a1 : Int32) (t : ct_St) (h : bl (t 41)) : bl (X8_stepsUp_s a1 t 41) := by
  dsimp only [X8_stepsUp_s]
  (repeat' split) <;> simp (decide := true) only [us_ne, X8_takesTop_s_fr, ne_eq] <;> first | exact h | exact go41 a1 t h
theorem sd41 (a1 : Int32) (t : ct_St) (h : bl (t 41)) : bl (X8_stepsDown_s a1 t 41) := by
  dsimp only [X8_stepsDown_s]
  (repeat' split) <;> simp (decide := true) only [us_ne, X8_takesTop_s_fr, ne_eq] <;> first | exact h | exact go41 a1 t h
theorem sb41 (a1 : Int32) (t : ct_St) (h : bl (t 41)) : bl (X8_stepsBoth_s a1 t 41) := by
  dsimp only [X8_stepsBoth_s]
  (repeat' split) <;> simp (decide := true) only [us_ne, X8_takesTop_s_fr, ne_eq] <;> first | exact h | exact go41 a1 t h
theorem ss41 (a1 : Int32) (t : ct_St) (h : bl (t 41)) : bl (X8_steps_s a1 t 41) := by
  dsimp only [X8_steps_s]
  (repeat' split)
  · exact su41 a1 _ h
  · exact sd41 a1 _ h
  · exact sb41 a1 _ h
theorem X8_steps_s_fr (a1 : Int32) (t : ct_St) {r : Nat} (h32 : r ≠ 32) (h35 : r ≠ 35) (h37 : r ≠ 37) (h38 : r ≠ 38) (h39 : r ≠ 39) (h40 : r ≠ 40) (h41 : r ≠ 41) : X8_steps_s a1 t r = t r := by
  dsimp only [X8_steps_s]
  (repeat' split) <;> simp only [us_ne, h32, h35, h37, h38, h39, h40, h41, ne_eq, not_false_eq_true, X8_stepsBoth_s_fr, X8_stepsDown_s_fr, X8_stepsUp_s_fr]
end
section
/-- what the reference's rows must hold, so that no index is wrong and no divisor 0 -/
def okM (t : ct_St) : Prop := (∀ x : Int32, vp_in x 4 → t 34 (ix x) = 2 → vp_in (x - 1) 4) ∧ bl (t 41) ∧ (∀ j, j < 4 → ¬ t 49 j = 0) ∧ (∀ j, j < 4 → vp_in (t 47 j) 4) ∧ (∀ j, j < 4 → vp_in (t 54 j) 4) ∧ vp_in (t 30 41) 4 ∧ ¬ t 30 40 = 0 ∧ vp_in (t 30 34) 25
theorem okM_of {t u : ct_St} (h : okM t) (h34 : u 34 = t 34) (h41 : bl (u 41)) (h49 : u 49 = t 49) (h47 : u 47 = t 47) (h54 : u 54 = t 54) (h30 : u 30 = t 30) : okM u := by
  unfold okM
  rw [h34, h49, h47, h54, h30]
  exact ⟨h.1, h41, h.2.2⟩
theorem okM_30 {t : ct_St} {k : Nat} {v : Int32} (h : okM t) (h1 : 41 ≠ k) (h2 : 40 ≠ k) (h3 : 34 ≠ k) : okM (us t 30 k v) := by
  unfold okM
  rw [us_ne (by decide), us_ne (by decide), us_ne (by decide), us_ne (by decide), us_ne (by decide), us_at, pk_un h1, pk_un h2, pk_un h3]
  exact h
theorem okM_ne {t : ct_St} {i k : Nat} {v : Int32} (h : okM t) (h0 : 30 ≠ i) (h1 : 34 ≠ i) (h2 : 41 ≠ i) (h3 : 49 ≠ i) (h4 : 47 ≠ i) (h5 : 54 ≠ i) : okM (us t i k v) := okM_of h (us_ne h1) (by rw [us_ne h2]; exact h.2.1) (us_ne h3) (us_ne h4) (us_ne h5) (us_ne h0)
theorem us_off {t : ct_St} {i k j : Nat} {v : Int32} (h : j ≠ k) : us t i k v i j = t i j := by rw [us_at, pk_un h]
theorem iX8_hasPulse_X8 : ∀ w ∈ wsX80, w ∈ wsX8_hasPulse := fun _ h => (List.mem_cons_of_mem _ (List.mem_append_right _ h))
theorem hv_X8_hasPulse : yX8_hasPulse.cls = RX8 ∧ yX8_hasPulse.cls ≠ "java/lang/invoke/MethodHandle" ∧ yX8_hasPulse.cls ≠ "java/lang/invoke/VarHandle" ∧ (parseMethodDescriptor yX8_hasPulse.desc).map (fun d => d.parameters.length) = some 1 := by decide +kernel
def X8_hasPulse_r (a1 : Int32) (t : ct_St) : Int32 :=
  if t 34 (ix a1) = 1 then
    1
  else
    if t 34 (ix a1) = 2 then
      t 41 (ix (a1 - 1))
    else
      if t 34 (ix a1) = 3 then
        if t 46 (ix a1) = 1 then
          1
        else
          0
      else
        0
set_option maxHeartbeats 4000000 in
set_option maxRecDepth 100000 in
theorem c_X8_hasPulse (l : Launch) (g : ct_G) (t : ct_St) (a1 : Int32) (h1 : vp_in a1 4) (h2 : t 34 (ix a1) = 2 → vp_in (a1 - 1) 4) (h3 : bl (t 41)) : MI l g shG yX8_hasPulse wsX8_hasPulse (rmd 0) [.ref (g.2.1 30), .int a1] t (X8_hasPulse_r a1 t) t := by
  refine MZ.of (own := RX8) (cc := cX8_hasPulse) (maxL := 2) rfl (by decide) rfl (Nat.le_of_ble_eq_true rfl) (fun p e s m args below meth cd A Q C hret ls hl => ?_)
  have hl : lv_has ls 2 [(0, .ref (g.2.1 30)), (1, .int a1)] := hl
  refine v_aload_n C dX8_hasPulse_0 rfl (lv_at hl 0 rfl) ?_
  refine v_getR C iX8_hasPulse_X8 k_30 rfl rfl (j := 4) rfl (by decide) rfl (C.w 1 rfl) dX8_hasPulse_1 ?_
  refine v_iload_n C dX8_hasPulse_4 rfl (lv_at hl 1 rfl) ?_
  refine v_iald C k_34 rfl h1 dX8_hasPulse_5 ?_
  refine VW.by (_ = (1 : Int32)) (fun c_1 => ?_) (fun c_1 => ?_)
  · refine v_tabIn (tgt := 32) C dX8_hasPulse_6 c_1 (by decide) (by decide) (by decide) (by decide) ?_
    refine v_iconst (v := 1) C dX8_hasPulse_32 (by decide) ?_
    exact hret _ _ _ _ (Eq.symm ((if_pos c_1).trans rfl)) rfl rfl dX8_hasPulse_33
  · refine VW.by (_ = (2 : Int32)) (fun c_2 => ?_) (fun c_2 => ?_)
    · refine v_tabIn (tgt := 34) C dX8_hasPulse_6 c_2 (by decide) (by decide) (by decide) (by decide) ?_
      refine v_aload_n C dX8_hasPulse_34 rfl (lv_at hl 0 rfl) ?_
      refine v_getR C iX8_hasPulse_X8 k_30 rfl rfl (j := 11) rfl (by decide) rfl (C.w 2 rfl) dX8_hasPulse_35 ?_
      refine v_iload_n C dX8_hasPulse_38 rfl (lv_at hl 1 rfl) ?_
      refine v_iconst (v := 1) C dX8_hasPulse_39 (by decide) ?_
      refine v_isub C dX8_hasPulse_40 ?_
      refine v_zald C k_41 rfl (h2 c_2) dX8_hasPulse_41 ?_
      exact hret _ _ _ _ (Eq.symm ((if_neg c_1).trans ((if_pos c_2).trans rfl))) rfl (nb_of (h3 _)) dX8_hasPulse_42
    · refine VW.by (_ = (3 : Int32)) (fun c_3 => ?_) (fun c_3 => ?_)
      · refine v_tabIn (tgt := 43) C dX8_hasPulse_6 c_3 (by decide) (by decide) (by decide) (by decide) ?_
        refine v_aload_n C dX8_hasPulse_43 rfl (lv_at hl 0 rfl) ?_
        refine v_getR C iX8_hasPulse_X8 k_30 rfl rfl (j := 16) rfl (by decide) rfl (C.w 3 rfl) dX8_hasPulse_44 ?_
        refine v_iload_n C dX8_hasPulse_47 rfl (lv_at hl 1 rfl) ?_
        refine v_iald C k_46 rfl h1 dX8_hasPulse_48 ?_
        refine v_iconst (v := 1) C dX8_hasPulse_49 (by decide) ?_
        refine v_icmp_ne (tgt := 57) C dX8_hasPulse_50 (by decide) (fun c_4 => ?_) (fun c_4 => ?_)
        · refine v_iconst (v := 0) C dX8_hasPulse_57 (by decide) ?_
          exact hret _ _ _ _ (Eq.symm ((if_neg c_1).trans ((if_neg c_2).trans ((if_pos c_3).trans ((if_neg c_4).trans rfl))))) rfl rfl dX8_hasPulse_58
        · refine v_iconst (v := 1) C dX8_hasPulse_53 (by decide) ?_
          refine v_goto (tgt := 58) C dX8_hasPulse_54 (by decide) ?_
          exact hret _ _ _ _ (Eq.symm ((if_neg c_1).trans ((if_neg c_2).trans ((if_pos c_3).trans ((if_pos c_4).trans rfl))))) rfl rfl dX8_hasPulse_58
      · refine v_tabOut (tgt := 59) C dX8_hasPulse_6 (by have h0 := lv_neT (a := 1) c_1 (by decide); have h1 := lv_neT (a := 2) c_2 (by decide); have h2 := lv_neT (a := 3) c_3 (by decide); omega) (by decide) ?_
        refine v_iconst (v := 0) C dX8_hasPulse_59 (by decide) ?_
        exact hret _ _ _ _ (Eq.symm ((if_neg c_1).trans ((if_neg c_2).trans ((if_neg c_3).trans rfl)))) rfl rfl dX8_hasPulse_60
theorem iX8_counters_X8 : ∀ w ∈ wsX80, w ∈ wsX8_counters := fun _ h => (List.mem_cons_of_mem _ (List.mem_append_right _ h))
theorem hv_X8_counters : yX8_counters.cls = RX8 ∧ yX8_counters.cls ≠ "java/lang/invoke/MethodHandle" ∧ yX8_counters.cls ≠ "java/lang/invoke/VarHandle" ∧ (parseMethodDescriptor yX8_counters.desc).map (fun d => d.parameters.length) = some 0 := by decide +kernel
def X8_counters_it (x : Int32) (t : ct_St) : ct_St :=
  let t1 := us t 40 (ix x) 0
  let t2 := us t1 41 (ix x) 0
  if X8_hasPulse_r x t2 = 0 then
    t2
  else
    let t3 := us t2 36 (ix x) ((t2 36 (ix x)) + 1)
    if t3 36 (ix x) = t3 33 (ix x) then
      let t4 := us t3 36 (ix x) 0
      let t5 := X8_steps_s x t4
      t5
    else
      t3
theorem X8_counters_it_fr (x : Int32) (t : ct_St) {r : Nat} (h32 : r ≠ 32) (h35 : r ≠ 35) (h36 : r ≠ 36) (h37 : r ≠ 37) (h38 : r ≠ 38) (h39 : r ≠ 39) (h40 : r ≠ 40) (h41 : r ≠ 41) : X8_counters_it x t r = t r := by
  dsimp only [X8_counters_it]
  (repeat' split) <;> simp only [us_ne, h32, h35, h36, h37, h38, h39, h40, h41, ne_eq, not_false_eq_true, X8_steps_s_fr]
theorem ok_X8_counters_it (x : Int32) (t : ct_St) (h : okM t) : okM (X8_counters_it x t) := okM_of h (X8_counters_it_fr x t (by decide) (by decide) (by decide) (by decide) (by decide) (by decide) (by decide) (by decide)) (by
  dsimp only [X8_counters_it]
  (repeat' split) <;> first | exact bl_up h.2.1 (Or.inl rfl) | exact ss41 x _ (bl_up h.2.1 (Or.inl rfl))) (X8_counters_it_fr x t (by decide) (by decide) (by decide) (by decide) (by decide) (by decide) (by decide) (by decide)) (X8_counters_it_fr x t (by decide) (by decide) (by decide) (by decide) (by decide) (by decide) (by decide) (by decide)) (X8_counters_it_fr x t (by decide) (by decide) (by decide) (by decide) (by decide) (by decide) (by decide) (by decide)) (X8_counters_it_fr x t (by decide) (by decide) (by decide) (by decide) (by decide) (by decide) (by decide) (by decide))
set_option maxHeartbeats 4000000 in
set_option maxRecDepth 100000 in
theorem cb_X8_counters {p : Program} {e : Env} {s : State} {m : MethodId} {args : Array Value} {below : List Frame} {meth : Method} {cd : Code} {A : Nat → Prop} {Q : State → Prop} (l : Launch) (g : ct_G) (C : Cx p s m args cd A g cX8_counters RX8 wsX8_counters 2) (t : ct_St) (x : Int32) (hx : vp_in x 4) (hc : okM t) (K : ∀ (ls : Array Slot) (x1 : Int32), x1 = x + 1 → lv_has ls 2 [(0, .ref (g.2.1 30)), (1, .int x1)] → VW p l e (rmd 3) s m args below meth cd 0 0 Q A g shG (X8_counters_it x t) (F0 m 2 ls [])) (ls : Array Slot) (hl : lv_has ls 2 [(0, .ref (g.2.1 30)), (1, .int x)]) : VW p l e (rmd 3) s m args below meth cd 0 0 Q A g shG t (F0 m 2 ls []) := by
  refine v_iload_n C dX8_counters_2 rfl (lv_at hl 1 rfl) ?_
  refine v_iconst (v := 4) C dX8_counters_3 (by decide) ?_
  refine v_icmp_ge (tgt := 72) C dX8_counters_4 (by decide) (fun h => absurd h ((vp_nle hx (by decide)))) (fun _ => ?_)
  refine v_aload_n C dX8_counters_7 rfl (lv_at hl 0 rfl) ?_
  refine v_getR C iX8_counters_X8 k_30 rfl rfl (j := 10) rfl (by decide) rfl (C.w 1 rfl) dX8_counters_8 ?_
  refine v_iload_n C dX8_counters_11 rfl (lv_at hl 1 rfl) ?_
  refine v_iconst (v := 0) C dX8_counters_12 (by decide) ?_
  refine v_zast (z := 0) C k_40 rfl hx (by decide) dX8_counters_13 ?_
  refine v_aload_n C dX8_counters_14 rfl (lv_at hl 0 rfl) ?_
  refine v_getR C iX8_counters_X8 k_30 rfl rfl (j := 11) rfl (by decide) rfl (C.w 2 rfl) dX8_counters_15 ?_
  refine v_iload_n C dX8_counters_18 rfl (lv_at hl 1 rfl) ?_
  refine v_iconst (v := 0) C dX8_counters_19 (by decide) ?_
  refine v_zast (z := 0) C k_41 rfl hx (by decide) dX8_counters_20 ?_
  refine v_aload_n C dX8_counters_21 rfl (lv_at hl 0 rfl) ?_
  refine v_iload_n C dX8_counters_22 rfl (lv_at hl 1 rfl) ?_
  refine v_calli C (c_X8_hasPulse l g _ _ hx (hc.1 _ hx) (bl_up hc.2.1 (Or.inl rfl))) (cwV 1 C.2.2.2.2.1 gX8_counters_X8_hasPulse rfl rfl rfl hv_X8_hasPulse ⟨Nat.le_of_ble_eq_true rfl, Nat.le_of_ble_eq_true rfl⟩) k_30 rfl rfl rfl rfl hl.1 rfl (Nat.le_of_ble_eq_true rfl) dX8_counters_23 ⟨Nat.le_refl _, Nat.le_refl _⟩ ?_
  refine v_if_eq (tgt := 66) C dX8_counters_26 (by decide) (fun c_2 => ?_) (fun c_2 => ?_)
  · refine v_iinc (k0 := 1) (v := _ + 1) (lv' := [(1, _), (0, _)]) C dX8_counters_66 hl rfl rfl (by decide) rfl (fun ls hl => ?_)
    refine v_goto (tgt := 2) C dX8_counters_69 (by decide) ?_
    exact VW.st (Eq.symm ((if_pos c_2).trans rfl)) (K ls _ rfl (lv_sub hl [1, 0] rfl))
  · refine v_aload_n C dX8_counters_29 rfl (lv_at hl 0 rfl) ?_
    refine v_getR C iX8_counters_X8 k_30 rfl rfl (j := 6) rfl (by decide) rfl (C.w 3 rfl) dX8_counters_30 ?_
    refine v_iload_n C dX8_counters_33 rfl (lv_at hl 1 rfl) ?_
    refine v_dup2 C dX8_counters_34 rfl rfl ?_
    refine v_iald C k_36 rfl hx dX8_counters_35 ?_
    refine v_iconst (v := 1) C dX8_counters_36 (by decide) ?_
    refine v_iadd C dX8_counters_37 ?_
    refine v_iast C k_36 rfl hx dX8_counters_38 ?_
    refine v_aload_n C dX8_counters_39 rfl (lv_at hl 0 rfl) ?_
    refine v_getR C iX8_counters_X8 k_30 rfl rfl (j := 6) rfl (by decide) rfl (C.w 3 rfl) dX8_counters_40 ?_
    refine v_iload_n C dX8_counters_43 rfl (lv_at hl 1 rfl) ?_
    refine v_iald C k_36 rfl hx dX8_counters_44 ?_
    refine v_aload_n C dX8_counters_45 rfl (lv_at hl 0 rfl) ?_
    refine v_getR C iX8_counters_X8 k_30 rfl rfl (j := 3) rfl (by decide) rfl (C.w 4 rfl) dX8_counters_46 ?_
    refine v_iload_n C dX8_counters_49 rfl (lv_at hl 1 rfl) ?_
    refine v_iald C k_33 rfl hx dX8_counters_50 ?_
    refine v_icmp_ne (tgt := 66) C dX8_counters_51 (by decide) (fun c_3 => ?_) (fun c_3 => ?_)
    · refine v_iinc (k0 := 1) (v := _ + 1) (lv' := [(1, _), (0, _)]) C dX8_counters_66 hl rfl rfl (by decide) rfl (fun ls hl => ?_)
      refine v_goto (tgt := 2) C dX8_counters_69 (by decide) ?_
      exact VW.st (Eq.symm ((if_neg c_2).trans ((if_neg c_3).trans rfl))) (K ls _ rfl (lv_sub hl [1, 0] rfl))
    · refine v_aload_n C dX8_counters_54 rfl (lv_at hl 0 rfl) ?_
      refine v_getR C iX8_counters_X8 k_30 rfl rfl (j := 6) rfl (by decide) rfl (C.w 3 rfl) dX8_counters_55 ?_
      refine v_iload_n C dX8_counters_58 rfl (lv_at hl 1 rfl) ?_
      refine v_iconst (v := 0) C dX8_counters_59 (by decide) ?_
      refine v_iast C k_36 rfl hx dX8_counters_60 ?_
      refine v_aload_n C dX8_counters_61 rfl (lv_at hl 0 rfl) ?_
      refine v_iload_n C dX8_counters_62 rfl (lv_at hl 1 rfl) ?_
      refine v_callv C (c_X8_steps l g _ _ hx) (cwV 1 C.2.2.2.2.1 gX8_counters_X8_steps rfl rfl rfl hv_X8_steps ⟨Nat.le_of_ble_eq_true rfl, Nat.le_of_ble_eq_true rfl⟩) k_30 rfl rfl rfl rfl hl.1 rfl (Nat.le_of_ble_eq_true rfl) dX8_counters_63 ⟨Nat.le_refl _, Nat.le_refl _⟩ ?_
      refine v_iinc (k0 := 1) (v := _ + 1) (lv' := [(1, _), (0, _)]) C dX8_counters_66 hl rfl rfl (by decide) rfl (fun ls hl => ?_)
      refine v_goto (tgt := 2) C dX8_counters_69 (by decide) ?_
      exact VW.st (Eq.symm ((if_neg c_2).trans ((if_pos c_3).trans rfl))) (K ls _ rfl (lv_sub hl [1, 0] rfl))
def X8_counters_s (t : ct_St) : ct_St :=
  let t1 := X8_counters_it 0 t
  let t2 := X8_counters_it 1 t1
  let t3 := X8_counters_it 2 t2
  let t4 := X8_counters_it 3 t3
  t4
set_option maxHeartbeats 4000000 in
set_option maxRecDepth 100000 in
theorem c_X8_counters (l : Launch) (g : ct_G) (t : ct_St) (hc : okM t) : MV l g shG yX8_counters wsX8_counters (rmd 3) [.ref (g.2.1 30)] t (X8_counters_s t) := by
  refine MV.of (own := RX8) (cc := cX8_counters) (maxL := 2) rfl (by decide) rfl (Nat.le_of_ble_eq_true rfl) (fun p e s m args below meth cd A Q C hret ls hl => ?_)
  have hl : lv_has ls 2 [(0, .ref (g.2.1 30))] := hl
  refine v_iconst (v := 0) C dX8_counters_0 (by decide) ?_
  refine v_istore_n (lv' := [(1, _), (0, _)]) C dX8_counters_1 rfl hl (by decide) rfl (fun ls hl => ?_)
  refine cb_X8_counters l g C _ 0 vl_0_4 hc (fun ls x1 hx1 hl => ?_) ls (lv_sub hl [1, 0] rfl)
  obtain rfl : x1 = 1 := hx1.trans (by decide)
  refine cb_X8_counters l g C _ 1 vl_1_4 (ok_X8_counters_it _ _ hc) (fun ls x1 hx1 hl => ?_) ls (lv_sub hl [0, 1] rfl)
  obtain rfl : x1 = 2 := hx1.trans (by decide)
  refine cb_X8_counters l g C _ 2 vl_2_4 (ok_X8_counters_it _ _ (ok_X8_counters_it _ _ hc)) (fun ls x1 hx1 hl => ?_) ls (lv_sub hl [0, 1] rfl)
  obtain rfl : x1 = 3 := hx1.trans (by decide)
  refine cb_X8_counters l g C _ 3 vl_3_4 (ok_X8_counters_it _ _ (ok_X8_counters_it _ _ (ok_X8_counters_it _ _ hc))) (fun ls x1 hx1 hl => ?_) ls (lv_sub hl [0, 1] rfl)
  obtain rfl : x1 = 4 := hx1.trans (by decide)
  refine v_iload_n C dX8_counters_2 rfl (lv_at hl 1 rfl) ?_
  refine v_iconst (v := 4) C dX8_counters_3 (by decide) ?_
  refine v_icmp_ge (tgt := 72) C dX8_counters_4 (by decide) (fun _ => ?_) (fun h => absurd h (by decide))
  exact hret _ _ _ rfl dX8_counters_72
theorem ok_X8_counters_s (t : ct_St) (h : okM t) : okM (X8_counters_s t) := ok_X8_counters_it _ _ (ok_X8_counters_it _ _ (ok_X8_counters_it _ _ (ok_X8_counters_it _ _ h)))
theorem X8_counters_s_fr (t : ct_St) {r : Nat} (h32 : r ≠ 32) (h35 : r ≠ 35) (h36 : r ≠ 36) (h37 : r ≠ 37) (h38 : r ≠ 38) (h39 : r ≠ 39) (h40 : r ≠ 40) (h41 : r ≠ 41) : X8_counters_s t r = t r := by
  dsimp only [X8_counters_s]
  (repeat' split) <;> simp only [us_ne, h32, h35, h36, h37, h38, h39, h40, h41, ne_eq, not_false_eq_true, X8_counters_it_fr]
theorem iX8_inputs_X8 : ∀ w ∈ wsX80, w ∈ wsX8_inputs := fun _ h => (List.mem_cons_of_mem _ (List.mem_append_right _ h))
theorem hv_X8_inputs : yX8_inputs.cls = RX8 ∧ yX8_inputs.cls ≠ "java/lang/invoke/MethodHandle" ∧ yX8_inputs.cls ≠ "java/lang/invoke/VarHandle" ∧ (parseMethodDescriptor yX8_inputs.desc).map (fun d => d.parameters.length) = some 0 := by decide +kernel
def X8_inputs_it (x : Int32) (t : ct_St) : ct_St :=
  let t1 := us t 46 (ix x) 0
  if t1 42 (ix x) = t1 43 (ix x) then
    let t7 := us t1 45 (ix x) 0
    if t7 45 (ix x) < t7 44 (ix x) then
      t7
    else
      let t8 := us t7 43 (ix x) (t7 42 (ix x))
      let t9 := us t8 45 (ix x) 0
      if t9 42 (ix x) = 1 then
        let t11 := us t9 46 (ix x) 1
        t11
      else
        let t10 := us t9 46 (ix x) 2
        t10
  else
    let t2 := us t1 45 (ix x) ((t1 45 (ix x)) + 1)
    if t2 45 (ix x) < t2 44 (ix x) then
      t2
    else
      let t3 := us t2 43 (ix x) (t2 42 (ix x))
      let t4 := us t3 45 (ix x) 0
      if t4 42 (ix x) = 1 then
        let t6 := us t4 46 (ix x) 1
        t6
      else
        let t5 := us t4 46 (ix x) 2
        t5
theorem X8_inputs_it_fr (x : Int32) (t : ct_St) {r : Nat} (h43 : r ≠ 43) (h45 : r ≠ 45) (h46 : r ≠ 46) : X8_inputs_it x t r = t r := by
  dsimp only [X8_inputs_it]
  (repeat' split) <;> simp only [us_ne, h43, h45, h46, ne_eq, not_false_eq_true]
theorem ok_X8_inputs_it (x : Int32) (t : ct_St) (h : okM t) : okM (X8_inputs_it x t) := okM_of h (X8_inputs_it_fr x t (by decide) (by decide) (by decide)) (by rw [X8_inputs_it_fr x t (by decide) (by decide) (by decide)]; exact h.2.1) (X8_inputs_it_fr x t (by decide) (by decide) (by decide)) (X8_inputs_it_fr x t (by decide) (by decide) (by decide)) (X8_inputs_it_fr x t (by decide) (by decide) (by decide)) (X8_inputs_it_fr x t (by decide) (by decide) (by decide))
set_option maxHeartbeats 4000000 in
set_option maxRecDepth 100000 in
theorem cb_X8_inputs {p : Program} {e : Env} {s : State} {m : MethodId} {args : Array Value} {below : List Frame} {meth : Method} {cd : Code} {A : Nat → Prop} {Q : State → Prop} (l : Launch) (g : ct_G) (C : Cx p s m args cd A g cX8_inputs RX8 wsX8_inputs 2) (t : ct_St) (x : Int32) (hx : vp_in x 4) (K : ∀ (ls : Array Slot) (x1 : Int32), x1 = x + 1 → lv_has ls 2 [(0, .ref (g.2.1 30)), (1, .int x1)] → VW p l e (rmd 0) s m args below meth cd 0 0 Q A g shG (X8_inputs_it x t) (F0 m 2 ls [])) (ls : Array Slot) (hl : lv_has ls 2 [(0, .ref (g.2.1 30)), (1, .int x)]) : VW p l e (rmd 0) s m args below meth cd 0 0 Q A g shG t (F0 m 2 ls []) := by
  refine v_iload_n C dX8_inputs_2 rfl (lv_at hl 1 rfl) ?_
  refine v_iconst (v := 4) C dX8_inputs_3 (by decide) ?_
  refine v_icmp_ge (tgt := 108) C dX8_inputs_4 (by decide) (fun h => absurd h ((vp_nle hx (by decide)))) (fun _ => ?_)
  refine v_aload_n C dX8_inputs_7 rfl (lv_at hl 0 rfl) ?_
  refine v_getR C iX8_inputs_X8 k_30 rfl rfl (j := 16) rfl (by decide) rfl (C.w 1 rfl) dX8_inputs_8 ?_
  refine v_iload_n C dX8_inputs_11 rfl (lv_at hl 1 rfl) ?_
  refine v_iconst (v := 0) C dX8_inputs_12 (by decide) ?_
  refine v_iast C k_46 rfl hx dX8_inputs_13 ?_
  refine v_aload_n C dX8_inputs_14 rfl (lv_at hl 0 rfl) ?_
  refine v_getR C iX8_inputs_X8 k_30 rfl rfl (j := 15) rfl (by decide) rfl (C.w 2 rfl) dX8_inputs_15 ?_
  refine v_iload_n C dX8_inputs_18 rfl (lv_at hl 1 rfl) ?_
  refine v_aload_n C dX8_inputs_19 rfl (lv_at hl 0 rfl) ?_
  refine v_getR C iX8_inputs_X8 k_30 rfl rfl (j := 12) rfl (by decide) rfl (C.w 3 rfl) dX8_inputs_20 ?_
  refine v_iload_n C dX8_inputs_23 rfl (lv_at hl 1 rfl) ?_
  refine v_iald C k_42 rfl hx dX8_inputs_24 ?_
  refine v_aload_n C dX8_inputs_25 rfl (lv_at hl 0 rfl) ?_
  refine v_getR C iX8_inputs_X8 k_30 rfl rfl (j := 13) rfl (by decide) rfl (C.w 4 rfl) dX8_inputs_26 ?_
  refine v_iload_n C dX8_inputs_29 rfl (lv_at hl 1 rfl) ?_
  refine v_iald C k_43 rfl hx dX8_inputs_30 ?_
  refine v_icmp_ne (tgt := 38) C dX8_inputs_31 (by decide) (fun c_2 => ?_) (fun c_2 => ?_)
  · refine v_aload_n C dX8_inputs_38 rfl (lv_at hl 0 rfl) ?_
    refine v_getR C iX8_inputs_X8 k_30 rfl rfl (j := 15) rfl (by decide) rfl (C.w 2 rfl) dX8_inputs_39 ?_
    refine v_iload_n C dX8_inputs_42 rfl (lv_at hl 1 rfl) ?_
    refine v_iald C k_45 rfl hx dX8_inputs_43 ?_
    refine v_iconst (v := 1) C dX8_inputs_44 (by decide) ?_
    refine v_iadd C dX8_inputs_45 ?_
    refine v_iast C k_45 rfl hx dX8_inputs_46 ?_
    refine v_aload_n C dX8_inputs_47 rfl (lv_at hl 0 rfl) ?_
    refine v_getR C iX8_inputs_X8 k_30 rfl rfl (j := 15) rfl (by decide) rfl (C.w 2 rfl) dX8_inputs_48 ?_
    refine v_iload_n C dX8_inputs_51 rfl (lv_at hl 1 rfl) ?_
    refine v_iald C k_45 rfl hx dX8_inputs_52 ?_
    refine v_aload_n C dX8_inputs_53 rfl (lv_at hl 0 rfl) ?_
    refine v_getR C iX8_inputs_X8 k_30 rfl rfl (j := 14) rfl (by decide) rfl (C.w 5 rfl) dX8_inputs_54 ?_
    refine v_iload_n C dX8_inputs_57 rfl (lv_at hl 1 rfl) ?_
    refine v_iald C k_44 rfl hx dX8_inputs_58 ?_
    refine v_icmp_lt (tgt := 102) C dX8_inputs_59 (by decide) (fun c_3 => ?_) (fun c_3 => ?_)
    · refine v_iinc (k0 := 1) (v := _ + 1) (lv' := [(1, _), (0, _)]) C dX8_inputs_102 hl rfl rfl (by decide) rfl (fun ls hl => ?_)
      refine v_goto (tgt := 2) C dX8_inputs_105 (by decide) ?_
      exact VW.st (Eq.symm ((if_neg c_2).trans ((if_pos c_3).trans rfl))) (K ls _ rfl (lv_sub hl [1, 0] rfl))
    · refine v_aload_n C dX8_inputs_62 rfl (lv_at hl 0 rfl) ?_
      refine v_getR C iX8_inputs_X8 k_30 rfl rfl (j := 13) rfl (by decide) rfl (C.w 4 rfl) dX8_inputs_63 ?_
      refine v_iload_n C dX8_inputs_66 rfl (lv_at hl 1 rfl) ?_
      refine v_aload_n C dX8_inputs_67 rfl (lv_at hl 0 rfl) ?_
      refine v_getR C iX8_inputs_X8 k_30 rfl rfl (j := 12) rfl (by decide) rfl (C.w 3 rfl) dX8_inputs_68 ?_
      refine v_iload_n C dX8_inputs_71 rfl (lv_at hl 1 rfl) ?_
      refine v_iald C k_42 rfl hx dX8_inputs_72 ?_
      refine v_iast C k_43 rfl hx dX8_inputs_73 ?_
      refine v_aload_n C dX8_inputs_74 rfl (lv_at hl 0 rfl) ?_
      refine v_getR C iX8_inputs_X8 k_30 rfl rfl (j := 15) rfl (by decide) rfl (C.w 2 rfl) dX8_inputs_75 ?_
      refine v_iload_n C dX8_inputs_78 rfl (lv_at hl 1 rfl) ?_
      refine v_iconst (v := 0) C dX8_inputs_79 (by decide) ?_
      refine v_iast C k_45 rfl hx dX8_inputs_80 ?_
      refine v_aload_n C dX8_inputs_81 rfl (lv_at hl 0 rfl) ?_
      refine v_getR C iX8_inputs_X8 k_30 rfl rfl (j := 16) rfl (by decide) rfl (C.w 1 rfl) dX8_inputs_82 ?_
      refine v_iload_n C dX8_inputs_85 rfl (lv_at hl 1 rfl) ?_
      refine v_aload_n C dX8_inputs_86 rfl (lv_at hl 0 rfl) ?_
      refine v_getR C iX8_inputs_X8 k_30 rfl rfl (j := 12) rfl (by decide) rfl (C.w 3 rfl) dX8_inputs_87 ?_
      refine v_iload_n C dX8_inputs_90 rfl (lv_at hl 1 rfl) ?_
      refine v_iald C k_42 rfl hx dX8_inputs_91 ?_
      refine v_iconst (v := 1) C dX8_inputs_92 (by decide) ?_
      refine v_icmp_ne (tgt := 100) C dX8_inputs_93 (by decide) (fun c_4 => ?_) (fun c_4 => ?_)
      · refine v_iconst (v := 2) C dX8_inputs_100 (by decide) ?_
        refine v_iast C k_46 rfl hx dX8_inputs_101 ?_
        refine v_iinc (k0 := 1) (v := _ + 1) (lv' := [(1, _), (0, _)]) C dX8_inputs_102 hl rfl rfl (by decide) rfl (fun ls hl => ?_)
        refine v_goto (tgt := 2) C dX8_inputs_105 (by decide) ?_
        exact VW.st (Eq.symm ((if_neg c_2).trans ((if_neg c_3).trans ((if_neg c_4).trans rfl)))) (K ls _ rfl (lv_sub hl [1, 0] rfl))
      · refine v_iconst (v := 1) C dX8_inputs_96 (by decide) ?_
        refine v_goto (tgt := 101) C dX8_inputs_97 (by decide) ?_
        refine v_iast C k_46 rfl hx dX8_inputs_101 ?_
        refine v_iinc (k0 := 1) (v := _ + 1) (lv' := [(1, _), (0, _)]) C dX8_inputs_102 hl rfl rfl (by decide) rfl (fun ls hl => ?_)
        refine v_goto (tgt := 2) C dX8_inputs_105 (by decide) ?_
        exact VW.st (Eq.symm ((if_neg c_2).trans ((if_neg c_3).trans ((if_pos c_4).trans rfl)))) (K ls _ rfl (lv_sub hl [1, 0] rfl))
  · refine v_iconst (v := 0) C dX8_inputs_34 (by decide) ?_
    refine v_goto (tgt := 46) C dX8_inputs_35 (by decide) ?_
    refine v_iast C k_45 rfl hx dX8_inputs_46 ?_
    refine v_aload_n C dX8_inputs_47 rfl (lv_at hl 0 rfl) ?_
    refine v_getR C iX8_inputs_X8 k_30 rfl rfl (j := 15) rfl (by decide) rfl (C.w 2 rfl) dX8_inputs_48 ?_
    refine v_iload_n C dX8_inputs_51 rfl (lv_at hl 1 rfl) ?_
    refine v_iald C k_45 rfl hx dX8_inputs_52 ?_
    refine v_aload_n C dX8_inputs_53 rfl (lv_at hl 0 rfl) ?_
    refine v_getR C iX8_inputs_X8 k_30 rfl rfl (j := 14) rfl (by decide) rfl (C.w 5 rfl) dX8_inputs_54 ?_
    refine v_iload_n C dX8_inputs_57 rfl (lv_at hl 1 rfl) ?_
    refine v_iald C k_44 rfl hx dX8_inputs_58 ?_
    refine v_icmp_lt (tgt := 102) C dX8_inputs_59 (by decide) (fun c_5 => ?_) (fun c_5 => ?_)
    · refine v_iinc (k0 := 1) (v := _ + 1) (lv' := [(1, _), (0, _)]) C dX8_inputs_102 hl rfl rfl (by decide) rfl (fun ls hl => ?_)
      refine v_goto (tgt := 2) C dX8_inputs_105 (by decide) ?_
      exact VW.st (Eq.symm ((if_pos c_2).trans ((if_pos c_5).trans rfl))) (K ls _ rfl (lv_sub hl [1, 0] rfl))
    · refine v_aload_n C dX8_inputs_62 rfl (lv_at hl 0 rfl) ?_
      refine v_getR C iX8_inputs_X8 k_30 rfl rfl (j := 13) rfl (by decide) rfl (C.w 4 rfl) dX8_inputs_63 ?_
      refine v_iload_n C dX8_inputs_66 rfl (lv_at hl 1 rfl) ?_
      refine v_aload_n C dX8_inputs_67 rfl (lv_at hl 0 rfl) ?_
      refine v_getR C iX8_inputs_X8 k_30 rfl rfl (j := 12) rfl (by decide) rfl (C.w 3 rfl) dX8_inputs_68 ?_
      refine v_iload_n C dX8_inputs_71 rfl (lv_at hl 1 rfl) ?_
      refine v_iald C k_42 rfl hx dX8_inputs_72 ?_
      refine v_iast C k_43 rfl hx dX8_inputs_73 ?_
      refine v_aload_n C dX8_inputs_74 rfl (lv_at hl 0 rfl) ?_
      refine v_getR C iX8_inputs_X8 k_30 rfl rfl (j := 15) rfl (by decide) rfl (C.w 2 rfl) dX8_inputs_75 ?_
      refine v_iload_n C dX8_inputs_78 rfl (lv_at hl 1 rfl) ?_
      refine v_iconst (v := 0) C dX8_inputs_79 (by decide) ?_
      refine v_iast C k_45 rfl hx dX8_inputs_80 ?_
      refine v_aload_n C dX8_inputs_81 rfl (lv_at hl 0 rfl) ?_
      refine v_getR C iX8_inputs_X8 k_30 rfl rfl (j := 16) rfl (by decide) rfl (C.w 1 rfl) dX8_inputs_82 ?_
      refine v_iload_n C dX8_inputs_85 rfl (lv_at hl 1 rfl) ?_
      refine v_aload_n C dX8_inputs_86 rfl (lv_at hl 0 rfl) ?_
      refine v_getR C iX8_inputs_X8 k_30 rfl rfl (j := 12) rfl (by decide) rfl (C.w 3 rfl) dX8_inputs_87 ?_
      refine v_iload_n C dX8_inputs_90 rfl (lv_at hl 1 rfl) ?_
      refine v_iald C k_42 rfl hx dX8_inputs_91 ?_
      refine v_iconst (v := 1) C dX8_inputs_92 (by decide) ?_
      refine v_icmp_ne (tgt := 100) C dX8_inputs_93 (by decide) (fun c_6 => ?_) (fun c_6 => ?_)
      · refine v_iconst (v := 2) C dX8_inputs_100 (by decide) ?_
        refine v_iast C k_46 rfl hx dX8_inputs_101 ?_
        refine v_iinc (k0 := 1) (v := _ + 1) (lv' := [(1, _), (0, _)]) C dX8_inputs_102 hl rfl rfl (by decide) rfl (fun ls hl => ?_)
        refine v_goto (tgt := 2) C dX8_inputs_105 (by decide) ?_
        exact VW.st (Eq.symm ((if_pos c_2).trans ((if_neg c_5).trans ((if_neg c_6).trans rfl)))) (K ls _ rfl (lv_sub hl [1, 0] rfl))
      · refine v_iconst (v := 1) C dX8_inputs_96 (by decide) ?_
        refine v_goto (tgt := 101) C dX8_inputs_97 (by decide) ?_
        refine v_iast C k_46 rfl hx dX8_inputs_101 ?_
        refine v_iinc (k0 := 1) (v := _ + 1) (lv' := [(1, _), (0, _)]) C dX8_inputs_102 hl rfl rfl (by decide) rfl (fun ls hl => ?_)
        refine v_goto (tgt := 2) C dX8_inputs_105 (by decide) ?_
        exact VW.st (Eq.symm ((if_pos c_2).trans ((if_neg c_5).trans ((if_pos c_6).trans rfl)))) (K ls _ rfl (lv_sub hl [1, 0] rfl))
def X8_inputs_s (t : ct_St) : ct_St :=
  let t1 := X8_inputs_it 0 t
  let t2 := X8_inputs_it 1 t1
  let t3 := X8_inputs_it 2 t2
  let t4 := X8_inputs_it 3 t3
  t4
set_option maxHeartbeats 4000000 in
set_option maxRecDepth 100000 in
theorem c_X8_inputs (l : Launch) (g : ct_G) (t : ct_St) : MV l g shG yX8_inputs wsX8_inputs (rmd 0) [.ref (g.2.1 30)] t (X8_inputs_s t) := by
  refine MV.of (own := RX8) (cc := cX8_inputs) (maxL := 2) rfl (by decide) rfl (Nat.le_of_ble_eq_true rfl) (fun p e s m args below meth cd A Q C hret ls hl => ?_)
  have hl : lv_has ls 2 [(0, .ref (g.2.1 30))] := hl
  refine v_iconst (v := 0) C dX8_inputs_0 (by decide) ?_
  refine v_istore_n (lv' := [(1, _), (0, _)]) C dX8_inputs_1 rfl hl (by decide) rfl (fun ls hl => ?_)
  refine cb_X8_inputs l g C _ 0 vl_0_4 (fun ls x1 hx1 hl => ?_) ls (lv_sub hl [1, 0] rfl)
  obtain rfl : x1 = 1 := hx1.trans (by decide)
  refine cb_X8_inputs l g C _ 1 vl_1_4 (fun ls x1 hx1 hl => ?_) ls (lv_sub hl [0, 1] rfl)
  obtain rfl : x1 = 2 := hx1.trans (by decide)
  refine cb_X8_inputs l g C _ 2 vl_2_4 (fun ls x1 hx1 hl => ?_) ls (lv_sub hl [0, 1] rfl)
  obtain rfl : x1 = 3 := hx1.trans (by decide)
  refine cb_X8_inputs l g C _ 3 vl_3_4 (fun ls x1 hx1 hl => ?_) ls (lv_sub hl [0, 1] rfl)
  obtain rfl : x1 = 4 := hx1.trans (by decide)
  refine v_iload_n C dX8_inputs_2 rfl (lv_at hl 1 rfl) ?_
  refine v_iconst (v := 4) C dX8_inputs_3 (by decide) ?_
  refine v_icmp_ge (tgt := 108) C dX8_inputs_4 (by decide) (fun _ => ?_) (fun h => absurd h (by decide))
  exact hret _ _ _ rfl dX8_inputs_108
theorem ok_X8_inputs_s (t : ct_St) (h : okM t) : okM (X8_inputs_s t) := ok_X8_inputs_it _ _ (ok_X8_inputs_it _ _ (ok_X8_inputs_it _ _ (ok_X8_inputs_it _ _ h)))
theorem X8_inputs_s_fr (t : ct_St) {r : Nat} (h43 : r ≠ 43) (h45 : r ≠ 45) (h46 : r ≠ 46) : X8_inputs_s t r = t r := by
  dsimp only [X8_inputs_s]
  (repeat' split) <;> simp only [us_ne, h43, h45, h46, ne_eq, not_false_eq_true, X8_inputs_it_fr]
theorem iX8_catchers_X8 : ∀ w ∈ wsX80, w ∈ wsX8_catchers := fun _ h => (List.mem_cons_of_mem _ (List.mem_append_right _ h))
theorem hv_X8_catchers : yX8_catchers.cls = RX8 ∧ yX8_catchers.cls ≠ "java/lang/invoke/MethodHandle" ∧ yX8_catchers.cls ≠ "java/lang/invoke/VarHandle" ∧ (parseMethodDescriptor yX8_catchers.desc).map (fun d => d.parameters.length) = some 0 := by decide +kernel
def X8_catchers_it (x : Int32) (t : ct_St) : ct_St :=
  if t 46 (ix x) = 0 then
    let t1 := us t 50 (ix x) ((t 50 (ix x)) + 0)
    t1
  else
    if (t 48 (ix x)) &&& (t 46 (ix x)) = 0 then
      let t2 := us t 50 (ix x) ((t 50 (ix x)) + 0)
      t2
    else
      let t3 := us t 50 (ix x) ((t 50 (ix x)) + 1)
      if (t3 50 (ix x)) - (t3 50 (ix x)) / (t3 49 (ix x)) * (t3 49 (ix x)) = 0 then
        let t4 := us t3 53 (ix x) ((t3 53 (ix x)) + (t3 52 (ix x)))
        let t5 := us t4 51 (ix x) (t4 35 (ix (t4 47 (ix x))))
        let t6 := us t5 52 (ix x) 1
        t6
      else
        t3
theorem X8_catchers_it_fr (x : Int32) (t : ct_St) {r : Nat} (h50 : r ≠ 50) (h51 : r ≠ 51) (h52 : r ≠ 52) (h53 : r ≠ 53) : X8_catchers_it x t r = t r := by
  dsimp only [X8_catchers_it]
  (repeat' split) <;> simp only [us_ne, h50, h51, h52, h53, ne_eq, not_false_eq_true]
theorem ok_X8_catchers_it (x : Int32) (t : ct_St) (h : okM t) : okM (X8_catchers_it x t) := okM_of h (X8_catchers_it_fr x t (by decide) (by decide) (by decide) (by decide)) (by rw [X8_catchers_it_fr x t (by decide) (by decide) (by decide) (by decide)]; exact h.2.1) (X8_catchers_it_fr x t (by decide) (by decide) (by decide) (by decide)) (X8_catchers_it_fr x t (by decide) (by decide) (by decide) (by decide)) (X8_catchers_it_fr x t (by decide) (by decide) (by decide) (by decide)) (X8_catchers_it_fr x t (by decide) (by decide) (by decide) (by decide))
set_option maxHeartbeats 4000000 in
set_option maxRecDepth 100000 in
theorem cb_X8_catchers {p : Program} {e : Env} {s : State} {m : MethodId} {args : Array Value} {below : List Frame} {meth : Method} {cd : Code} {A : Nat → Prop} {Q : State → Prop} (l : Launch) (g : ct_G) (C : Cx p s m args cd A g cX8_catchers RX8 wsX8_catchers 3) (t : ct_St) (x : Int32) (hx : vp_in x 4) (hc : okM t) (K : ∀ (ls : Array Slot) (x1 : Int32), x1 = x + 1 → lv_has ls 3 [(0, .ref (g.2.1 30)), (1, .int x1)] → VW p l e (rmd 0) s m args below meth cd 0 0 Q A g shG (X8_catchers_it x t) (F0 m 2 ls [])) (ls : Array Slot) (hl : lv_has ls 3 [(0, .ref (g.2.1 30)), (1, .int x)]) : VW p l e (rmd 0) s m args below meth cd 0 0 Q A g shG t (F0 m 2 ls []) := by
  refine v_iload_n C dX8_catchers_2 rfl (lv_at hl 1 rfl) ?_
  refine v_iconst (v := 4) C dX8_catchers_3 (by decide) ?_
  refine v_icmp_ge (tgt := 121) C dX8_catchers_4 (by decide) (fun h => absurd h ((vp_nle hx (by decide)))) (fun _ => ?_)
  refine v_aload_n C dX8_catchers_7 rfl (lv_at hl 0 rfl) ?_
  refine v_getR C iX8_catchers_X8 k_30 rfl rfl (j := 16) rfl (by decide) rfl (C.w 1 rfl) dX8_catchers_8 ?_
  refine v_iload_n C dX8_catchers_11 rfl (lv_at hl 1 rfl) ?_
  refine v_iald C k_46 rfl hx dX8_catchers_12 ?_
  refine v_if_eq (tgt := 36) C dX8_catchers_13 (by decide) (fun c_2 => ?_) (fun c_2 => ?_)
  · refine v_iconst (v := 0) C dX8_catchers_36 (by decide) ?_
    refine v_istore_n (lv' := [(2, _), (0, _), (1, _)]) C dX8_catchers_37 rfl hl (by decide) rfl (fun ls hl => ?_)
    refine v_aload_n C dX8_catchers_38 rfl (lv_at hl 1 rfl) ?_
    refine v_getR C iX8_catchers_X8 k_30 rfl rfl (j := 20) rfl (by decide) rfl (C.w 3 rfl) dX8_catchers_39 ?_
    refine v_iload_n C dX8_catchers_42 rfl (lv_at hl 2 rfl) ?_
    refine v_dup2 C dX8_catchers_43 rfl rfl ?_
    refine v_iald C k_50 rfl hx dX8_catchers_44 ?_
    refine v_iload_n C dX8_catchers_45 rfl (lv_at hl 0 rfl) ?_
    refine v_if_eq (tgt := 53) C dX8_catchers_46 (by decide) (fun _ => ?_) (fun h => absurd h (by decide))
    refine v_iconst (v := 0) C dX8_catchers_53 (by decide) ?_
    refine v_iadd C dX8_catchers_54 ?_
    refine v_iast C k_50 rfl hx dX8_catchers_55 ?_
    refine v_iload_n C dX8_catchers_56 rfl (lv_at hl 0 rfl) ?_
    refine v_if_eq (tgt := 115) C dX8_catchers_57 (by decide) (fun _ => ?_) (fun h => absurd h (by decide))
    refine v_iinc (k0 := 2) (v := _ + 1) (lv' := [(1, _), (2, _), (0, _)]) C dX8_catchers_115 hl rfl rfl (by decide) rfl (fun ls hl => ?_)
    refine v_goto (tgt := 2) C dX8_catchers_118 (by decide) ?_
    exact VW.st (Eq.symm ((if_pos c_2).trans rfl)) (K ls _ rfl (lv_sub hl [2, 0] rfl))
  · refine v_aload_n C dX8_catchers_16 rfl (lv_at hl 0 rfl) ?_
    refine v_getR C iX8_catchers_X8 k_30 rfl rfl (j := 18) rfl (by decide) rfl (C.w 2 rfl) dX8_catchers_17 ?_
    refine v_iload_n C dX8_catchers_20 rfl (lv_at hl 1 rfl) ?_
    refine v_iald C k_48 rfl hx dX8_catchers_21 ?_
    refine v_aload_n C dX8_catchers_22 rfl (lv_at hl 0 rfl) ?_
    refine v_getR C iX8_catchers_X8 k_30 rfl rfl (j := 16) rfl (by decide) rfl (C.w 1 rfl) dX8_catchers_23 ?_
    refine v_iload_n C dX8_catchers_26 rfl (lv_at hl 1 rfl) ?_
    refine v_iald C k_46 rfl hx dX8_catchers_27 ?_
    refine v_iand C dX8_catchers_28 ?_
    refine v_if_eq (tgt := 36) C dX8_catchers_29 (by decide) (fun c_5 => ?_) (fun c_5 => ?_)
    · refine v_iconst (v := 0) C dX8_catchers_36 (by decide) ?_
      refine v_istore_n (lv' := [(2, _), (0, _), (1, _)]) C dX8_catchers_37 rfl hl (by decide) rfl (fun ls hl => ?_)
      refine v_aload_n C dX8_catchers_38 rfl (lv_at hl 1 rfl) ?_
      refine v_getR C iX8_catchers_X8 k_30 rfl rfl (j := 20) rfl (by decide) rfl (C.w 3 rfl) dX8_catchers_39 ?_
      refine v_iload_n C dX8_catchers_42 rfl (lv_at hl 2 rfl) ?_
      refine v_dup2 C dX8_catchers_43 rfl rfl ?_
      refine v_iald C k_50 rfl hx dX8_catchers_44 ?_
      refine v_iload_n C dX8_catchers_45 rfl (lv_at hl 0 rfl) ?_
      refine v_if_eq (tgt := 53) C dX8_catchers_46 (by decide) (fun _ => ?_) (fun h => absurd h (by decide))
      refine v_iconst (v := 0) C dX8_catchers_53 (by decide) ?_
      refine v_iadd C dX8_catchers_54 ?_
      refine v_iast C k_50 rfl hx dX8_catchers_55 ?_
      refine v_iload_n C dX8_catchers_56 rfl (lv_at hl 0 rfl) ?_
      refine v_if_eq (tgt := 115) C dX8_catchers_57 (by decide) (fun _ => ?_) (fun h => absurd h (by decide))
      refine v_iinc (k0 := 2) (v := _ + 1) (lv' := [(1, _), (2, _), (0, _)]) C dX8_catchers_115 hl rfl rfl (by decide) rfl (fun ls hl => ?_)
      refine v_goto (tgt := 2) C dX8_catchers_118 (by decide) ?_
      exact VW.st (Eq.symm ((if_neg c_2).trans ((if_pos c_5).trans rfl))) (K ls _ rfl (lv_sub hl [2, 0] rfl))
    · refine v_iconst (v := 1) C dX8_catchers_32 (by decide) ?_
      refine v_goto (tgt := 37) C dX8_catchers_33 (by decide) ?_
      refine v_istore_n (lv' := [(2, _), (0, _), (1, _)]) C dX8_catchers_37 rfl hl (by decide) rfl (fun ls hl => ?_)
      refine v_aload_n C dX8_catchers_38 rfl (lv_at hl 1 rfl) ?_
      refine v_getR C iX8_catchers_X8 k_30 rfl rfl (j := 20) rfl (by decide) rfl (C.w 3 rfl) dX8_catchers_39 ?_
      refine v_iload_n C dX8_catchers_42 rfl (lv_at hl 2 rfl) ?_
      refine v_dup2 C dX8_catchers_43 rfl rfl ?_
      refine v_iald C k_50 rfl hx dX8_catchers_44 ?_
      refine v_iload_n C dX8_catchers_45 rfl (lv_at hl 0 rfl) ?_
      refine v_if_eq (tgt := 53) C dX8_catchers_46 (by decide) (fun h => absurd h (by decide)) (fun _ => ?_)
      refine v_iconst (v := 1) C dX8_catchers_49 (by decide) ?_
      refine v_goto (tgt := 54) C dX8_catchers_50 (by decide) ?_
      refine v_iadd C dX8_catchers_54 ?_
      refine v_iast C k_50 rfl hx dX8_catchers_55 ?_
      refine v_iload_n C dX8_catchers_56 rfl (lv_at hl 0 rfl) ?_
      refine v_if_eq (tgt := 115) C dX8_catchers_57 (by decide) (fun h => absurd h (by decide)) (fun _ => ?_)
      refine v_aload_n C dX8_catchers_60 rfl (lv_at hl 1 rfl) ?_
      refine v_getR C iX8_catchers_X8 k_30 rfl rfl (j := 20) rfl (by decide) rfl (C.w 3 rfl) dX8_catchers_61 ?_
      refine v_iload_n C dX8_catchers_64 rfl (lv_at hl 2 rfl) ?_
      refine v_iald C k_50 rfl hx dX8_catchers_65 ?_
      refine v_aload_n C dX8_catchers_66 rfl (lv_at hl 1 rfl) ?_
      refine v_getR C iX8_catchers_X8 k_30 rfl rfl (j := 19) rfl (by decide) rfl (C.w 4 rfl) dX8_catchers_67 ?_
      refine v_iload_n C dX8_catchers_70 rfl (lv_at hl 2 rfl) ?_
      refine v_iald C k_49 rfl hx dX8_catchers_71 ?_
      refine v_irem C dX8_catchers_72 (hc.2.2.1 _ (vp_lt hx)) ?_
      refine v_if_ne (tgt := 115) C dX8_catchers_73 (by decide) (fun c_10 => ?_) (fun c_10 => ?_)
      · refine v_iinc (k0 := 2) (v := _ + 1) (lv' := [(1, _), (2, _), (0, _)]) C dX8_catchers_115 hl rfl rfl (by decide) rfl (fun ls hl => ?_)
        refine v_goto (tgt := 2) C dX8_catchers_118 (by decide) ?_
        exact VW.st (Eq.symm ((if_neg c_2).trans ((if_neg c_5).trans ((if_neg c_10).trans rfl)))) (K ls _ rfl (lv_sub hl [2, 0] rfl))
      · refine v_aload_n C dX8_catchers_76 rfl (lv_at hl 1 rfl) ?_
        refine v_getR C iX8_catchers_X8 k_30 rfl rfl (j := 23) rfl (by decide) rfl (C.w 5 rfl) dX8_catchers_77 ?_
        refine v_iload_n C dX8_catchers_80 rfl (lv_at hl 2 rfl) ?_
        refine v_dup2 C dX8_catchers_81 rfl rfl ?_
        refine v_iald C k_53 rfl hx dX8_catchers_82 ?_
        refine v_aload_n C dX8_catchers_83 rfl (lv_at hl 1 rfl) ?_
        refine v_getR C iX8_catchers_X8 k_30 rfl rfl (j := 22) rfl (by decide) rfl (C.w 6 rfl) dX8_catchers_84 ?_
        refine v_iload_n C dX8_catchers_87 rfl (lv_at hl 2 rfl) ?_
        refine v_iald C k_52 rfl hx dX8_catchers_88 ?_
        refine v_iadd C dX8_catchers_89 ?_
        refine v_iast C k_53 rfl hx dX8_catchers_90 ?_
        refine v_aload_n C dX8_catchers_91 rfl (lv_at hl 1 rfl) ?_
        refine v_getR C iX8_catchers_X8 k_30 rfl rfl (j := 21) rfl (by decide) rfl (C.w 7 rfl) dX8_catchers_92 ?_
        refine v_iload_n C dX8_catchers_95 rfl (lv_at hl 2 rfl) ?_
        refine v_aload_n C dX8_catchers_96 rfl (lv_at hl 1 rfl) ?_
        refine v_getR C iX8_catchers_X8 k_30 rfl rfl (j := 5) rfl (by decide) rfl (C.w 8 rfl) dX8_catchers_97 ?_
        refine v_aload_n C dX8_catchers_100 rfl (lv_at hl 1 rfl) ?_
        refine v_getR C iX8_catchers_X8 k_30 rfl rfl (j := 17) rfl (by decide) rfl (C.w 9 rfl) dX8_catchers_101 ?_
        refine v_iload_n C dX8_catchers_104 rfl (lv_at hl 2 rfl) ?_
        refine v_iald C k_47 rfl hx dX8_catchers_105 ?_
        refine v_iald C k_35 rfl (hc.2.2.2.1 _ (vp_lt hx)) dX8_catchers_106 ?_
        refine v_iast C k_51 rfl hx dX8_catchers_107 ?_
        refine v_aload_n C dX8_catchers_108 rfl (lv_at hl 1 rfl) ?_
        refine v_getR C iX8_catchers_X8 k_30 rfl rfl (j := 22) rfl (by decide) rfl (C.w 6 rfl) dX8_catchers_109 ?_
        refine v_iload_n C dX8_catchers_112 rfl (lv_at hl 2 rfl) ?_
        refine v_iconst (v := 1) C dX8_catchers_113 (by decide) ?_
        refine v_iast C k_52 rfl hx dX8_catchers_114 ?_
        refine v_iinc (k0 := 2) (v := _ + 1) (lv' := [(1, _), (2, _), (0, _)]) C dX8_catchers_115 hl rfl rfl (by decide) rfl (fun ls hl => ?_)
        refine v_goto (tgt := 2) C dX8_catchers_118 (by decide) ?_
        exact VW.st (Eq.symm ((if_neg c_2).trans ((if_neg c_5).trans ((if_pos c_10).trans rfl)))) (K ls _ rfl (lv_sub hl [2, 0] rfl))
def X8_catchers_s (t : ct_St) : ct_St :=
  let t1 := X8_catchers_it 0 t
  let t2 := X8_catchers_it 1 t1
  let t3 := X8_catchers_it 2 t2
  let t4 := X8_catchers_it 3 t3
  t4
set_option maxHeartbeats 4000000 in
set_option maxRecDepth 100000 in
theorem c_X8_catchers (l : Launch) (g : ct_G) (t : ct_St) (hc : okM t) : MV l g shG yX8_catchers wsX8_catchers (rmd 0) [.ref (g.2.1 30)] t (X8_catchers_s t) := by
  refine MV.of (own := RX8) (cc := cX8_catchers) (maxL := 3) rfl (by decide) rfl (Nat.le_of_ble_eq_true rfl) (fun p e s m args below meth cd A Q C hret ls hl => ?_)
  have hl : lv_has ls 3 [(0, .ref (g.2.1 30))] := hl
  refine v_iconst (v := 0) C dX8_catchers_0 (by decide) ?_
  refine v_istore_n (lv' := [(1, _), (0, _)]) C dX8_catchers_1 rfl hl (by decide) rfl (fun ls hl => ?_)
  refine cb_X8_catchers l g C _ 0 vl_0_4 hc (fun ls x1 hx1 hl => ?_) ls (lv_sub hl [1, 0] rfl)
  obtain rfl : x1 = 1 := hx1.trans (by decide)
  refine cb_X8_catchers l g C _ 1 vl_1_4 (ok_X8_catchers_it _ _ hc) (fun ls x1 hx1 hl => ?_) ls (lv_sub hl [0, 1] rfl)
  obtain rfl : x1 = 2 := hx1.trans (by decide)
  refine cb_X8_catchers l g C _ 2 vl_2_4 (ok_X8_catchers_it _ _ (ok_X8_catchers_it _ _ hc)) (fun ls x1 hx1 hl => ?_) ls (lv_sub hl [0, 1] rfl)
  obtain rfl : x1 = 3 := hx1.trans (by decide)
  refine cb_X8_catchers l g C _ 3 vl_3_4 (ok_X8_catchers_it _ _ (ok_X8_catchers_it _ _ (ok_X8_catchers_it _ _ hc))) (fun ls x1 hx1 hl => ?_) ls (lv_sub hl [0, 1] rfl)
  obtain rfl : x1 = 4 := hx1.trans (by decide)
  refine v_iload_n C dX8_catchers_2 rfl (lv_at hl 1 rfl) ?_
  refine v_iconst (v := 4) C dX8_catchers_3 (by decide) ?_
  refine v_icmp_ge (tgt := 121) C dX8_catchers_4 (by decide) (fun _ => ?_) (fun h => absurd h (by decide))
  exact hret _ _ _ rfl dX8_catchers_121
theorem ok_X8_catchers_s (t : ct_St) (h : okM t) : okM (X8_catchers_s t) := ok_X8_catchers_it _ _ (ok_X8_catchers_it _ _ (ok_X8_catchers_it _ _ (ok_X8_catchers_it _ _ h)))
theorem X8_catchers_s_fr (t : ct_St) {r : Nat} (h50 : r ≠ 50) (h51 : r ≠ 51) (h52 : r ≠ 52) (h53 : r ≠ 53) : X8_catchers_s t r = t r := by
  dsimp only [X8_catchers_s]
  (repeat' split) <;> simp only [us_ne, h50, h51, h52, h53, ne_eq, not_false_eq_true, X8_catchers_it_fr]
theorem iX8_levelThen_X8 : ∀ w ∈ wsX80, w ∈ wsX8_levelThen := fun _ h => (List.mem_cons_of_mem _ (List.mem_append_right _ h))
theorem hv_X8_levelThen : yX8_levelThen.cls = RX8 ∧ yX8_levelThen.cls ≠ "java/lang/invoke/MethodHandle" ∧ yX8_levelThen.cls ≠ "java/lang/invoke/VarHandle" ∧ (parseMethodDescriptor yX8_levelThen.desc).map (fun d => d.parameters.length) = some 1 := by decide +kernel
def X8_levelThen_r (a1 : Int32) (t : ct_St) : Int32 :=
  let x1 := t 54 (ix a1)
  if t 40 (ix x1) = 0 then
    if t 55 (ix a1) = 0 then
      0
    else
      if t 55 (ix a1) = 1 then
        if t 56 (ix a1) ≤ t 35 (ix x1) then
          0
        else
          1
      else
        if t 55 (ix a1) = 2 then
          if t 56 (ix a1) ≤ t 35 (ix x1) then
            1
          else
            0
        else
          if t 55 (ix a1) = 3 then
            t 57 (ix a1)
          else
            t 57 (ix a1)
  else
    if t 35 (ix x1) = t 56 (ix a1) then
      if t 55 (ix a1) = 0 then
        0
      else
        if t 55 (ix a1) = 1 then
          if t 56 (ix a1) ≤ t 35 (ix x1) then
            0
          else
            1
        else
          if t 55 (ix a1) = 2 then
            if t 56 (ix a1) ≤ t 35 (ix x1) then
              1
            else
              0
          else
            if t 55 (ix a1) = 3 then
              1 - (t 57 (ix a1))
            else
              1
    else
      if t 55 (ix a1) = 0 then
        0
      else
        if t 55 (ix a1) = 1 then
          if t 56 (ix a1) ≤ t 35 (ix x1) then
            0
          else
            1
        else
          if t 55 (ix a1) = 2 then
            if t 56 (ix a1) ≤ t 35 (ix x1) then
              1
            else
              0
          else
            if t 55 (ix a1) = 3 then
              t 57 (ix a1)
            else
              t 57 (ix a1)
set_option maxHeartbeats 4000000 in
set_option maxRecDepth 100000 in
theorem c_X8_levelThen (l : Launch) (g : ct_G) (t : ct_St) (a1 : Int32) (h1 : vp_in a1 4) (h2 : vp_in (t 54 (ix a1)) 4) : MI l g shG yX8_levelThen wsX8_levelThen (rmd 0) [.ref (g.2.1 30), .int a1] t (X8_levelThen_r a1 t) t := by
  refine MI.of (own := RX8) (cc := cX8_levelThen) (maxL := 4) rfl (by decide) rfl (Nat.le_of_ble_eq_true rfl) (fun p e s m args below meth cd A Q C hret ls hl => ?_)
  have hl : lv_has ls 4 [(0, .ref (g.2.1 30)), (1, .int a1)] := hl
  refine v_aload_n C dX8_levelThen_0 rfl (lv_at hl 0 rfl) ?_
  refine v_getR C iX8_levelThen_X8 k_30 rfl rfl (j := 24) rfl (by decide) rfl (C.w 1 rfl) dX8_levelThen_1 ?_
  refine v_iload_n C dX8_levelThen_4 rfl (lv_at hl 1 rfl) ?_
  refine v_iald C k_54 rfl h1 dX8_levelThen_5 ?_
  refine v_istore_n (lv' := [(2, _), (0, _), (1, _)]) C dX8_levelThen_6 rfl hl (by decide) rfl (fun ls hl => ?_)
  refine v_aload_n C dX8_levelThen_7 rfl (lv_at hl 1 rfl) ?_
  refine v_getR C iX8_levelThen_X8 k_30 rfl rfl (j := 10) rfl (by decide) rfl (C.w 2 rfl) dX8_levelThen_8 ?_
  refine v_iload_n C dX8_levelThen_11 rfl (lv_at hl 0 rfl) ?_
  refine v_zald C k_40 rfl h2 dX8_levelThen_12 ?_
  refine v_if_eq (tgt := 35) C dX8_levelThen_13 (by decide) (fun c_1 => ?_) (fun c_1 => ?_)
  · refine v_iconst (v := 0) C dX8_levelThen_35 (by decide) ?_
    refine v_istore_n (lv' := [(3, _), (2, _), (0, _), (1, _)]) C dX8_levelThen_36 rfl hl (by decide) rfl (fun ls hl => ?_)
    refine v_aload_n C dX8_levelThen_37 rfl (lv_at hl 2 rfl) ?_
    refine v_getR C iX8_levelThen_X8 k_30 rfl rfl (j := 25) rfl (by decide) rfl (C.w 5 rfl) dX8_levelThen_38 ?_
    refine v_iload_n C dX8_levelThen_41 rfl (lv_at hl 3 rfl) ?_
    refine v_iald C k_55 rfl h1 dX8_levelThen_42 ?_
    refine VW.by (_ = (0 : Int32)) (fun c_2 => ?_) (fun c_2 => ?_)
    · refine v_tabIn (tgt := 72) C dX8_levelThen_43 c_2 (by decide) (by decide) (by decide) (by decide) ?_
      refine v_iconst (v := 0) C dX8_levelThen_72 (by decide) ?_
      exact hret _ _ _ _ (Eq.symm ((if_pos c_1).trans ((if_pos c_2).trans rfl))) rfl dX8_levelThen_73
    · refine VW.by (_ = (1 : Int32)) (fun c_3 => ?_) (fun c_3 => ?_)
      · refine v_tabIn (tgt := 74) C dX8_levelThen_43 c_3 (by decide) (by decide) (by decide) (by decide) ?_
        refine v_aload_n C dX8_levelThen_74 rfl (lv_at hl 2 rfl) ?_
        refine v_getR C iX8_levelThen_X8 k_30 rfl rfl (j := 5) rfl (by decide) rfl (C.w 3 rfl) dX8_levelThen_75 ?_
        refine v_iload_n C dX8_levelThen_78 rfl (lv_at hl 1 rfl) ?_
        refine v_iald C k_35 rfl h2 dX8_levelThen_79 ?_
        refine v_aload_n C dX8_levelThen_80 rfl (lv_at hl 2 rfl) ?_
        refine v_getR C iX8_levelThen_X8 k_30 rfl rfl (j := 26) rfl (by decide) rfl (C.w 4 rfl) dX8_levelThen_81 ?_
        refine v_iload_n C dX8_levelThen_84 rfl (lv_at hl 3 rfl) ?_
        refine v_iald C k_56 rfl h1 dX8_levelThen_85 ?_
        refine v_icmp_ge (tgt := 93) C dX8_levelThen_86 (by decide) (fun c_4 => ?_) (fun c_4 => ?_)
        · refine v_iconst (v := 0) C dX8_levelThen_93 (by decide) ?_
          exact hret _ _ _ _ (Eq.symm ((if_pos c_1).trans ((if_neg c_2).trans ((if_pos c_3).trans ((if_pos c_4).trans rfl))))) rfl dX8_levelThen_94
        · refine v_iconst (v := 1) C dX8_levelThen_89 (by decide) ?_
          refine v_goto (tgt := 94) C dX8_levelThen_90 (by decide) ?_
          exact hret _ _ _ _ (Eq.symm ((if_pos c_1).trans ((if_neg c_2).trans ((if_pos c_3).trans ((if_neg c_4).trans rfl))))) rfl dX8_levelThen_94
      · refine VW.by (_ = (2 : Int32)) (fun c_5 => ?_) (fun c_5 => ?_)
        · refine v_tabIn (tgt := 95) C dX8_levelThen_43 c_5 (by decide) (by decide) (by decide) (by decide) ?_
          refine v_aload_n C dX8_levelThen_95 rfl (lv_at hl 2 rfl) ?_
          refine v_getR C iX8_levelThen_X8 k_30 rfl rfl (j := 5) rfl (by decide) rfl (C.w 3 rfl) dX8_levelThen_96 ?_
          refine v_iload_n C dX8_levelThen_99 rfl (lv_at hl 1 rfl) ?_
          refine v_iald C k_35 rfl h2 dX8_levelThen_100 ?_
          refine v_aload_n C dX8_levelThen_101 rfl (lv_at hl 2 rfl) ?_
          refine v_getR C iX8_levelThen_X8 k_30 rfl rfl (j := 26) rfl (by decide) rfl (C.w 4 rfl) dX8_levelThen_102 ?_
          refine v_iload_n C dX8_levelThen_105 rfl (lv_at hl 3 rfl) ?_
          refine v_iald C k_56 rfl h1 dX8_levelThen_106 ?_
          refine v_icmp_ge (tgt := 114) C dX8_levelThen_107 (by decide) (fun c_6 => ?_) (fun c_6 => ?_)
          · refine v_iconst (v := 1) C dX8_levelThen_114 (by decide) ?_
            exact hret _ _ _ _ (Eq.symm ((if_pos c_1).trans ((if_neg c_2).trans ((if_neg c_3).trans ((if_pos c_5).trans ((if_pos c_6).trans rfl)))))) rfl dX8_levelThen_115
          · refine v_iconst (v := 0) C dX8_levelThen_110 (by decide) ?_
            refine v_goto (tgt := 115) C dX8_levelThen_111 (by decide) ?_
            exact hret _ _ _ _ (Eq.symm ((if_pos c_1).trans ((if_neg c_2).trans ((if_neg c_3).trans ((if_pos c_5).trans ((if_neg c_6).trans rfl)))))) rfl dX8_levelThen_115
        · refine VW.by (_ = (3 : Int32)) (fun c_7 => ?_) (fun c_7 => ?_)
          · refine v_tabIn (tgt := 116) C dX8_levelThen_43 c_7 (by decide) (by decide) (by decide) (by decide) ?_
            refine v_iload_n C dX8_levelThen_116 rfl (lv_at hl 0 rfl) ?_
            refine v_if_eq (tgt := 131) C dX8_levelThen_117 (by decide) (fun _ => ?_) (fun h => absurd h (by decide))
            refine v_aload_n C dX8_levelThen_131 rfl (lv_at hl 2 rfl) ?_
            refine v_getR C iX8_levelThen_X8 k_30 rfl rfl (j := 27) rfl (by decide) rfl (C.w 6 rfl) dX8_levelThen_132 ?_
            refine v_iload_n C dX8_levelThen_135 rfl (lv_at hl 3 rfl) ?_
            refine v_iald C k_57 rfl h1 dX8_levelThen_136 ?_
            exact hret _ _ _ _ (Eq.symm ((if_pos c_1).trans ((if_neg c_2).trans ((if_neg c_3).trans ((if_neg c_5).trans ((if_pos c_7).trans rfl)))))) rfl dX8_levelThen_137
          · refine v_tabOut (tgt := 138) C dX8_levelThen_43 (by have h0 := lv_neT (a := 0) c_2 (by decide); have h1 := lv_neT (a := 1) c_3 (by decide); have h2 := lv_neT (a := 2) c_5 (by decide); have h3 := lv_neT (a := 3) c_7 (by decide); omega) (by decide) ?_
            refine v_iload_n C dX8_levelThen_138 rfl (lv_at hl 0 rfl) ?_
            refine v_if_eq (tgt := 146) C dX8_levelThen_139 (by decide) (fun _ => ?_) (fun h => absurd h (by decide))
            refine v_aload_n C dX8_levelThen_146 rfl (lv_at hl 2 rfl) ?_
            refine v_getR C iX8_levelThen_X8 k_30 rfl rfl (j := 27) rfl (by decide) rfl (C.w 6 rfl) dX8_levelThen_147 ?_
            refine v_iload_n C dX8_levelThen_150 rfl (lv_at hl 3 rfl) ?_
            refine v_iald C k_57 rfl h1 dX8_levelThen_151 ?_
            exact hret _ _ _ _ (Eq.symm ((if_pos c_1).trans ((if_neg c_2).trans ((if_neg c_3).trans ((if_neg c_5).trans ((if_neg c_7).trans rfl)))))) rfl dX8_levelThen_152
  · refine v_aload_n C dX8_levelThen_16 rfl (lv_at hl 1 rfl) ?_
    refine v_getR C iX8_levelThen_X8 k_30 rfl rfl (j := 5) rfl (by decide) rfl (C.w 3 rfl) dX8_levelThen_17 ?_
    refine v_iload_n C dX8_levelThen_20 rfl (lv_at hl 0 rfl) ?_
    refine v_iald C k_35 rfl h2 dX8_levelThen_21 ?_
    refine v_aload_n C dX8_levelThen_22 rfl (lv_at hl 1 rfl) ?_
    refine v_getR C iX8_levelThen_X8 k_30 rfl rfl (j := 26) rfl (by decide) rfl (C.w 4 rfl) dX8_levelThen_23 ?_
    refine v_iload_n C dX8_levelThen_26 rfl (lv_at hl 2 rfl) ?_
    refine v_iald C k_56 rfl h1 dX8_levelThen_27 ?_
    refine v_icmp_ne (tgt := 35) C dX8_levelThen_28 (by decide) (fun c_10 => ?_) (fun c_10 => ?_)
    · refine v_iconst (v := 0) C dX8_levelThen_35 (by decide) ?_
      refine v_istore_n (lv' := [(3, _), (2, _), (0, _), (1, _)]) C dX8_levelThen_36 rfl hl (by decide) rfl (fun ls hl => ?_)
      refine v_aload_n C dX8_levelThen_37 rfl (lv_at hl 2 rfl) ?_
      refine v_getR C iX8_levelThen_X8 k_30 rfl rfl (j := 25) rfl (by decide) rfl (C.w 5 rfl) dX8_levelThen_38 ?_
      refine v_iload_n C dX8_levelThen_41 rfl (lv_at hl 3 rfl) ?_
      refine v_iald C k_55 rfl h1 dX8_levelThen_42 ?_
      refine VW.by (_ = (0 : Int32)) (fun c_11 => ?_) (fun c_11 => ?_)
      · refine v_tabIn (tgt := 72) C dX8_levelThen_43 c_11 (by decide) (by decide) (by decide) (by decide) ?_
        refine v_iconst (v := 0) C dX8_levelThen_72 (by decide) ?_
        exact hret _ _ _ _ (Eq.symm ((if_neg c_1).trans ((if_neg c_10).trans ((if_pos c_11).trans rfl)))) rfl dX8_levelThen_73
      · refine VW.by (_ = (1 : Int32)) (fun c_12 => ?_) (fun c_12 => ?_)
        · refine v_tabIn (tgt := 74) C dX8_levelThen_43 c_12 (by decide) (by decide) (by decide) (by decide) ?_
          refine v_aload_n C dX8_levelThen_74 rfl (lv_at hl 2 rfl) ?_
          refine v_getR C iX8_levelThen_X8 k_30 rfl rfl (j := 5) rfl (by decide) rfl (C.w 3 rfl) dX8_levelThen_75 ?_
          refine v_iload_n C dX8_levelThen_78 rfl (lv_at hl 1 rfl) ?_
          refine v_iald C k_35 rfl h2 dX8_levelThen_79 ?_
          refine v_aload_n C dX8_levelThen_80 rfl (lv_at hl 2 rfl) ?_
          refine v_getR C iX8_levelThen_X8 k_30 rfl rfl (j := 26) rfl (by decide) rfl (C.w 4 rfl) dX8_levelThen_81 ?_
          refine v_iload_n C dX8_levelThen_84 rfl (lv_at hl 3 rfl) ?_
          refine v_iald C k_56 rfl h1 dX8_levelThen_85 ?_
          refine v_icmp_ge (tgt := 93) C dX8_levelThen_86 (by decide) (fun c_13 => ?_) (fun c_13 => ?_)
          · refine v_iconst (v := 0) C dX8_levelThen_93 (by decide) ?_
            exact hret _ _ _ _ (Eq.symm ((if_neg c_1).trans ((if_neg c_10).trans ((if_neg c_11).trans ((if_pos c_12).trans ((if_pos c_13).trans rfl)))))) rfl dX8_levelThen_94
          · refine v_iconst (v := 1) C dX8_levelThen_89 (by decide) ?_
            refine v_goto (tgt := 94) C dX8_levelThen_90 (by decide) ?_
            exact hret _ _ _ _ (Eq.symm ((if_neg c_1).trans ((if_neg c_10).trans ((if_neg c_11).trans ((if_pos c_12).trans ((if_neg c_13).trans rfl)))))) rfl dX8_levelThen_94
        · refine VW.by (_ = (2 : Int32)) (fun c_14 => ?_) (fun c_14 => ?_)
          · refine v_tabIn (tgt := 95) C dX8_levelThen_43 c_14 (by decide) (by decide) (by decide) (by decide) ?_
            refine v_aload_n C dX8_levelThen_95 rfl (lv_at hl 2 rfl) ?_
            refine v_getR C iX8_levelThen_X8 k_30 rfl rfl (j := 5) rfl (by decide) rfl (C.w 3 rfl) dX8_levelThen_96 ?_
            refine v_iload_n C dX8_levelThen_99 rfl (lv_at hl 1 rfl) ?_
            refine v_iald C k_35 rfl h2 dX8_levelThen_100 ?_
            refine v_aload_n C dX8_levelThen_101 rfl (lv_at hl 2 rfl) ?_
            refine v_getR C iX8_levelThen_X8 k_30 rfl rfl (j := 26) rfl (by decide) rfl (C.w 4 rfl) dX8_levelThen_102 ?_
            refine v_iload_n C dX8_levelThen_105 rfl (lv_at hl 3 rfl) ?_
            refine v_iald C k_56 rfl h1 dX8_levelThen_106 ?_
            refine v_icmp_ge (tgt := 114) C dX8_levelThen_107 (by decide) (fun c_15 => ?_) (fun c_15 => ?_)
            · refine v_iconst (v := 1) C dX8_levelThen_114 (by decide) ?_
              exact hret _ _ _ _ (Eq.symm ((if_neg c_1).trans ((if_neg c_10).trans ((if_neg c_11).trans ((if_neg c_12).trans ((if_pos c_14).trans ((if_pos c_15).trans rfl))))))) rfl dX8_levelThen_115
            · refine v_iconst (v := 0) C dX8_levelThen_110 (by decide) ?_
              refine v_goto (tgt := 115) C dX8_levelThen_111 (by decide) ?_
              exact hret _ _ _ _ (Eq.symm ((if_neg c_1).trans ((if_neg c_10).trans ((if_neg c_11).trans ((if_neg c_12).trans ((if_pos c_14).trans ((if_neg c_15).trans rfl))))))) rfl dX8_levelThen_115
          · refine VW.by (_ = (3 : Int32)) (fun c_16 => ?_) (fun c_16 => ?_)
            · refine v_tabIn (tgt := 116) C dX8_levelThen_43 c_16 (by decide) (by decide) (by decide) (by decide) ?_
              refine v_iload_n C dX8_levelThen_116 rfl (lv_at hl 0 rfl) ?_
              refine v_if_eq (tgt := 131) C dX8_levelThen_117 (by decide) (fun _ => ?_) (fun h => absurd h (by decide))
              refine v_aload_n C dX8_levelThen_131 rfl (lv_at hl 2 rfl) ?_
              refine v_getR C iX8_levelThen_X8 k_30 rfl rfl (j := 27) rfl (by decide) rfl (C.w 6 rfl) dX8_levelThen_132 ?_
              refine v_iload_n C dX8_levelThen_135 rfl (lv_at hl 3 rfl) ?_
              refine v_iald C k_57 rfl h1 dX8_levelThen_136 ?_
              exact hret _ _ _ _ (Eq.symm ((if_neg c_1).trans ((if_neg c_10).trans ((if_neg c_11).trans ((if_neg c_12).trans ((if_neg c_14).trans ((if_pos c_16).trans rfl))))))) rfl dX8_levelThen_137
            · refine v_tabOut (tgt := 138) C dX8_levelThen_43 (by have h0 := lv_neT (a := 0) c_11 (by decide); have h1 := lv_neT (a := 1) c_12 (by decide); have h2 := lv_neT (a := 2) c_14 (by decide); have h3 := lv_neT (a := 3) c_16 (by decide); omega) (by decide) ?_
              refine v_iload_n C dX8_levelThen_138 rfl (lv_at hl 0 rfl) ?_
              refine v_if_eq (tgt := 146) C dX8_levelThen_139 (by decide) (fun _ => ?_) (fun h => absurd h (by decide))
              refine v_aload_n C dX8_levelThen_146 rfl (lv_at hl 2 rfl) ?_
              refine v_getR C iX8_levelThen_X8 k_30 rfl rfl (j := 27) rfl (by decide) rfl (C.w 6 rfl) dX8_levelThen_147 ?_
              refine v_iload_n C dX8_levelThen_150 rfl (lv_at hl 3 rfl) ?_
              refine v_iald C k_57 rfl h1 dX8_levelThen_151 ?_
              exact hret _ _ _ _ (Eq.symm ((if_neg c_1).trans ((if_neg c_10).trans ((if_neg c_11).trans ((if_neg c_12).trans ((if_neg c_14).trans ((if_neg c_16).trans rfl))))))) rfl dX8_levelThen_152
    · refine v_iconst (v := 1) C dX8_levelThen_31 (by decide) ?_
      refine v_goto (tgt := 36) C dX8_levelThen_32 (by decide) ?_
      refine v_istore_n (lv' := [(3, _), (2, _), (0, _), (1, _)]) C dX8_levelThen_36 rfl hl (by decide) rfl (fun ls hl => ?_)
      refine v_aload_n C dX8_levelThen_37 rfl (lv_at hl 2 rfl) ?_
      refine v_getR C iX8_levelThen_X8 k_30 rfl rfl (j := 25) rfl (by decide) rfl (C.w 5 rfl) dX8_levelThen_38 ?_
      refine v_iload_n C dX8_levelThen_41 rfl (lv_at hl 3 rfl) ?_
      refine v_iald C k_55 rfl h1 dX8_levelThen_42 ?_
      refine VW.by (_ = (0 : Int32)) (fun c_19 => ?_) (fun c_19 => ?_)
      · refine v_tabIn (tgt := 72) C dX8_levelThen_43 c_19 (by decide) (by decide) (by decide) (by decide) ?_
        refine v_iconst (v := 0) C dX8_levelThen_72 (by decide) ?_
        exact hret _ _ _ _ (Eq.symm ((if_neg c_1).trans ((if_pos c_10).trans ((if_pos c_19).trans rfl)))) rfl dX8_levelThen_73
      · refine VW.by (_ = (1 : Int32)) (fun c_20 => ?_) (fun c_20 => ?_)
        · refine v_tabIn (tgt := 74) C dX8_levelThen_43 c_20 (by decide) (by decide) (by decide) (by decide) ?_
          refine v_aload_n C dX8_levelThen_74 rfl (lv_at hl 2 rfl) ?_
          refine v_getR C iX8_levelThen_X8 k_30 rfl rfl (j := 5) rfl (by decide) rfl (C.w 3 rfl) dX8_levelThen_75 ?_
          refine v_iload_n C dX8_levelThen_78 rfl (lv_at hl 1 rfl) ?_
          refine v_iald C k_35 rfl h2 dX8_levelThen_79 ?_
          refine v_aload_n C dX8_levelThen_80 rfl (lv_at hl 2 rfl) ?_
          refine v_getR C iX8_levelThen_X8 k_30 rfl rfl (j := 26) rfl (by decide) rfl (C.w 4 rfl) dX8_levelThen_81 ?_
          refine v_iload_n C dX8_levelThen_84 rfl (lv_at hl 3 rfl) ?_
          refine v_iald C k_56 rfl h1 dX8_levelThen_85 ?_
          refine v_icmp_ge (tgt := 93) C dX8_levelThen_86 (by decide) (fun c_21 => ?_) (fun c_21 => ?_)
          · refine v_iconst (v := 0) C dX8_levelThen_93 (by decide) ?_
            exact hret _ _ _ _ (Eq.symm ((if_neg c_1).trans ((if_pos c_10).trans ((if_neg c_19).trans ((if_pos c_20).trans ((if_pos c_21).trans rfl)))))) rfl dX8_levelThen_94
          · refine v_iconst (v := 1) C dX8_levelThen_89 (by decide) ?_
            refine v_goto (tgt := 94) C dX8_levelThen_90 (by decide) ?_
            exact hret _ _ _ _ (Eq.symm ((if_neg c_1).trans ((if_pos c_10).trans ((if_neg c_19).trans ((if_pos c_20).trans ((if_neg c_21).trans rfl)))))) rfl dX8_levelThen_94
        · refine VW.by (_ = (2 : Int32)) (fun c_22 => ?_) (fun c_22 => ?_)
          · refine v_tabIn (tgt := 95) C dX8_levelThen_43 c_22 (by decide) (by decide) (by decide) (by decide) ?_
            refine v_aload_n C dX8_levelThen_95 rfl (lv_at hl 2 rfl) ?_
            refine v_getR C iX8_levelThen_X8 k_30 rfl rfl (j := 5) rfl (by decide) rfl (C.w 3 rfl) dX8_levelThen_96 ?_
            refine v_iload_n C dX8_levelThen_99 rfl (lv_at hl 1 rfl) ?_
            refine v_iald C k_35 rfl h2 dX8_levelThen_100 ?_
            refine v_aload_n C dX8_levelThen_101 rfl (lv_at hl 2 rfl) ?_
            refine v_getR C iX8_levelThen_X8 k_30 rfl rfl (j := 26) rfl (by decide) rfl (C.w 4 rfl) dX8_levelThen_102 ?_
            refine v_iload_n C dX8_levelThen_105 rfl (lv_at hl 3 rfl) ?_
            refine v_iald C k_56 rfl h1 dX8_levelThen_106 ?_
            refine v_icmp_ge (tgt := 114) C dX8_levelThen_107 (by decide) (fun c_23 => ?_) (fun c_23 => ?_)
            · refine v_iconst (v := 1) C dX8_levelThen_114 (by decide) ?_
              exact hret _ _ _ _ (Eq.symm ((if_neg c_1).trans ((if_pos c_10).trans ((if_neg c_19).trans ((if_neg c_20).trans ((if_pos c_22).trans ((if_pos c_23).trans rfl))))))) rfl dX8_levelThen_115
            · refine v_iconst (v := 0) C dX8_levelThen_110 (by decide) ?_
              refine v_goto (tgt := 115) C dX8_levelThen_111 (by decide) ?_
              exact hret _ _ _ _ (Eq.symm ((if_neg c_1).trans ((if_pos c_10).trans ((if_neg c_19).trans ((if_neg c_20).trans ((if_pos c_22).trans ((if_neg c_23).trans rfl))))))) rfl dX8_levelThen_115
          · refine VW.by (_ = (3 : Int32)) (fun c_24 => ?_) (fun c_24 => ?_)
            · refine v_tabIn (tgt := 116) C dX8_levelThen_43 c_24 (by decide) (by decide) (by decide) (by decide) ?_
              refine v_iload_n C dX8_levelThen_116 rfl (lv_at hl 0 rfl) ?_
              refine v_if_eq (tgt := 131) C dX8_levelThen_117 (by decide) (fun h => absurd h (by decide)) (fun _ => ?_)
              refine v_iconst (v := 1) C dX8_levelThen_120 (by decide) ?_
              refine v_aload_n C dX8_levelThen_121 rfl (lv_at hl 2 rfl) ?_
              refine v_getR C iX8_levelThen_X8 k_30 rfl rfl (j := 27) rfl (by decide) rfl (C.w 6 rfl) dX8_levelThen_122 ?_
              refine v_iload_n C dX8_levelThen_125 rfl (lv_at hl 3 rfl) ?_
              refine v_iald C k_57 rfl h1 dX8_levelThen_126 ?_
              refine v_isub C dX8_levelThen_127 ?_
              refine v_goto (tgt := 137) C dX8_levelThen_128 (by decide) ?_
              exact hret _ _ _ _ (Eq.symm ((if_neg c_1).trans ((if_pos c_10).trans ((if_neg c_19).trans ((if_neg c_20).trans ((if_neg c_22).trans ((if_pos c_24).trans rfl))))))) rfl dX8_levelThen_137
            · refine v_tabOut (tgt := 138) C dX8_levelThen_43 (by have h0 := lv_neT (a := 0) c_19 (by decide); have h1 := lv_neT (a := 1) c_20 (by decide); have h2 := lv_neT (a := 2) c_22 (by decide); have h3 := lv_neT (a := 3) c_24 (by decide); omega) (by decide) ?_
              refine v_iload_n C dX8_levelThen_138 rfl (lv_at hl 0 rfl) ?_
              refine v_if_eq (tgt := 146) C dX8_levelThen_139 (by decide) (fun h => absurd h (by decide)) (fun _ => ?_)
              refine v_iconst (v := 1) C dX8_levelThen_142 (by decide) ?_
              refine v_goto (tgt := 152) C dX8_levelThen_143 (by decide) ?_
              exact hret _ _ _ _ (Eq.symm ((if_neg c_1).trans ((if_pos c_10).trans ((if_neg c_19).trans ((if_neg c_20).trans ((if_neg c_22).trans ((if_neg c_24).trans rfl))))))) rfl dX8_levelThen_152
theorem iX8_channels_X8 : ∀ w ∈ wsX80, w ∈ wsX8_channels := fun _ h => (List.mem_cons_of_mem _ (List.mem_append_right _ h))
theorem hv_X8_channels : yX8_channels.cls = RX8 ∧ yX8_channels.cls ≠ "java/lang/invoke/MethodHandle" ∧ yX8_channels.cls ≠ "java/lang/invoke/VarHandle" ∧ (parseMethodDescriptor yX8_channels.desc).map (fun d => d.parameters.length) = some 0 := by decide +kernel
def X8_channels_it (x : Int32) (t : ct_St) : ct_St :=
  let x1 := X8_levelThen_r x t
  if x1 = t 57 (ix x) then
    if 99 ≤ t 58 (ix x) then
      let t2 := us t 58 (ix x) 99
      let t3 := us t2 57 (ix x) x1
      t3
    else
      let t4 := us t 58 (ix x) ((t 58 (ix x)) + 1)
      let t5 := us t4 57 (ix x) x1
      t5
  else
    let t6 := us t 58 (ix x) 1
    let t7 := us t6 57 (ix x) x1
    t7
theorem X8_channels_it_fr (x : Int32) (t : ct_St) {r : Nat} (h57 : r ≠ 57) (h58 : r ≠ 58) : X8_channels_it x t r = t r := by
  dsimp only [X8_channels_it]
  (repeat' split) <;> simp only [us_ne, h57, h58, ne_eq, not_false_eq_true]
theorem ok_X8_channels_it (x : Int32) (t : ct_St) (h : okM t) : okM (X8_channels_it x t) := okM_of h (X8_channels_it_fr x t (by decide) (by decide)) (by rw [X8_channels_it_fr x t (by decide) (by decide)]; exact h.2.1) (X8_channels_it_fr x t (by decide) (by decide)) (X8_channels_it_fr x t (by decide) (by decide)) (X8_channels_it_fr x t (by decide) (by decide)) (X8_channels_it_fr x t (by decide) (by decide))
set_option maxHeartbeats 4000000 in
set_option maxRecDepth 100000 in
theorem cb_X8_channels {p : Program} {e : Env} {s : State} {m : MethodId} {args : Array Value} {below : List Frame} {meth : Method} {cd : Code} {A : Nat → Prop} {Q : State → Prop} (l : Launch) (g : ct_G) (C : Cx p s m args cd A g cX8_channels RX8 wsX8_channels 3) (t : ct_St) (x : Int32) (hx : vp_in x 4) (hc : okM t) (K : ∀ (ls : Array Slot) (x1 : Int32), x1 = x + 1 → lv_has ls 3 [(0, .ref (g.2.1 30)), (1, .int x1)] → VW p l e (rmd 1) s m args below meth cd 0 0 Q A g shG (X8_channels_it x t) (F0 m 2 ls [])) (ls : Array Slot) (hl : lv_has ls 3 [(0, .ref (g.2.1 30)), (1, .int x)]) : VW p l e (rmd 1) s m args below meth cd 0 0 Q A g shG t (F0 m 2 ls []) := by
  refine v_iload_n C dX8_channels_2 rfl (lv_at hl 1 rfl) ?_
  refine v_iconst (v := 4) C dX8_channels_3 (by decide) ?_
  refine v_icmp_ge (tgt := 70) C dX8_channels_4 (by decide) (fun h => absurd h ((vp_nle hx (by decide)))) (fun _ => ?_)
  refine v_aload_n C dX8_channels_7 rfl (lv_at hl 0 rfl) ?_
  refine v_iload_n C dX8_channels_8 rfl (lv_at hl 1 rfl) ?_
  refine v_calli C (c_X8_levelThen l g _ _ hx (hc.2.2.2.2.1 _ (vp_lt hx))) (cwV 1 C.2.2.2.2.1 gX8_channels_X8_levelThen rfl rfl rfl hv_X8_levelThen ⟨Nat.le_of_ble_eq_true rfl, Nat.le_of_ble_eq_true rfl⟩) k_30 rfl rfl rfl rfl hl.1 rfl (Nat.le_of_ble_eq_true rfl) dX8_channels_9 ⟨Nat.le_refl _, Nat.le_refl _⟩ ?_
  refine v_istore_n (lv' := [(2, _), (0, _), (1, _)]) C dX8_channels_12 rfl hl (by decide) rfl (fun ls hl => ?_)
  refine v_aload_n C dX8_channels_13 rfl (lv_at hl 1 rfl) ?_
  refine v_getR C iX8_channels_X8 k_30 rfl rfl (j := 28) rfl (by decide) rfl (C.w 1 rfl) dX8_channels_14 ?_
  refine v_iload_n C dX8_channels_17 rfl (lv_at hl 2 rfl) ?_
  refine v_iload_n C dX8_channels_18 rfl (lv_at hl 0 rfl) ?_
  refine v_aload_n C dX8_channels_19 rfl (lv_at hl 1 rfl) ?_
  refine v_getR C iX8_channels_X8 k_30 rfl rfl (j := 27) rfl (by decide) rfl (C.w 2 rfl) dX8_channels_20 ?_
  refine v_iload_n C dX8_channels_23 rfl (lv_at hl 2 rfl) ?_
  refine v_iald C k_57 rfl hx dX8_channels_24 ?_
  refine v_icmp_eq (tgt := 32) C dX8_channels_25 (by decide) (fun c_2 => ?_) (fun c_2 => ?_)
  · refine v_aload_n C dX8_channels_32 rfl (lv_at hl 1 rfl) ?_
    refine v_getR C iX8_channels_X8 k_30 rfl rfl (j := 28) rfl (by decide) rfl (C.w 1 rfl) dX8_channels_33 ?_
    refine v_iload_n C dX8_channels_36 rfl (lv_at hl 2 rfl) ?_
    refine v_iald C k_58 rfl hx dX8_channels_37 ?_
    refine v_bipush (v := 99) C dX8_channels_38 (by decide) ?_
    refine v_icmp_ge (tgt := 54) C dX8_channels_40 (by decide) (fun c_3 => ?_) (fun c_3 => ?_)
    · refine v_bipush (v := 99) C dX8_channels_54 (by decide) ?_
      refine v_iast C k_58 rfl hx dX8_channels_56 ?_
      refine v_aload_n C dX8_channels_57 rfl (lv_at hl 1 rfl) ?_
      refine v_getR C iX8_channels_X8 k_30 rfl rfl (j := 27) rfl (by decide) rfl (C.w 2 rfl) dX8_channels_58 ?_
      refine v_iload_n C dX8_channels_61 rfl (lv_at hl 2 rfl) ?_
      refine v_iload_n C dX8_channels_62 rfl (lv_at hl 0 rfl) ?_
      refine v_iast C k_57 rfl hx dX8_channels_63 ?_
      refine v_iinc (k0 := 2) (v := _ + 1) (lv' := [(1, _), (2, _), (0, _)]) C dX8_channels_64 hl rfl rfl (by decide) rfl (fun ls hl => ?_)
      refine v_goto (tgt := 2) C dX8_channels_67 (by decide) ?_
      exact VW.st (Eq.symm ((if_pos c_2).trans ((if_pos c_3).trans rfl))) (K ls _ rfl (lv_sub hl [2, 0] rfl))
    · refine v_aload_n C dX8_channels_43 rfl (lv_at hl 1 rfl) ?_
      refine v_getR C iX8_channels_X8 k_30 rfl rfl (j := 28) rfl (by decide) rfl (C.w 1 rfl) dX8_channels_44 ?_
      refine v_iload_n C dX8_channels_47 rfl (lv_at hl 2 rfl) ?_
      refine v_iald C k_58 rfl hx dX8_channels_48 ?_
      refine v_iconst (v := 1) C dX8_channels_49 (by decide) ?_
      refine v_iadd C dX8_channels_50 ?_
      refine v_goto (tgt := 56) C dX8_channels_51 (by decide) ?_
      refine v_iast C k_58 rfl hx dX8_channels_56 ?_
      refine v_aload_n C dX8_channels_57 rfl (lv_at hl 1 rfl) ?_
      refine v_getR C iX8_channels_X8 k_30 rfl rfl (j := 27) rfl (by decide) rfl (C.w 2 rfl) dX8_channels_58 ?_
      refine v_iload_n C dX8_channels_61 rfl (lv_at hl 2 rfl) ?_
      refine v_iload_n C dX8_channels_62 rfl (lv_at hl 0 rfl) ?_
      refine v_iast C k_57 rfl hx dX8_channels_63 ?_
      refine v_iinc (k0 := 2) (v := _ + 1) (lv' := [(1, _), (2, _), (0, _)]) C dX8_channels_64 hl rfl rfl (by decide) rfl (fun ls hl => ?_)
      refine v_goto (tgt := 2) C dX8_channels_67 (by decide) ?_
      exact VW.st (Eq.symm ((if_pos c_2).trans ((if_neg c_3).trans rfl))) (K ls _ rfl (lv_sub hl [2, 0] rfl))
  · refine v_iconst (v := 1) C dX8_channels_28 (by decide) ?_
    refine v_goto (tgt := 56) C dX8_channels_29 (by decide) ?_
    refine v_iast C k_58 rfl hx dX8_channels_56 ?_
    refine v_aload_n C dX8_channels_57 rfl (lv_at hl 1 rfl) ?_
    refine v_getR C iX8_channels_X8 k_30 rfl rfl (j := 27) rfl (by decide) rfl (C.w 2 rfl) dX8_channels_58 ?_
    refine v_iload_n C dX8_channels_61 rfl (lv_at hl 2 rfl) ?_
    refine v_iload_n C dX8_channels_62 rfl (lv_at hl 0 rfl) ?_
    refine v_iast C k_57 rfl hx dX8_channels_63 ?_
    refine v_iinc (k0 := 2) (v := _ + 1) (lv' := [(1, _), (2, _), (0, _)]) C dX8_channels_64 hl rfl rfl (by decide) rfl (fun ls hl => ?_)
    refine v_goto (tgt := 2) C dX8_channels_67 (by decide) ?_
    exact VW.st (Eq.symm ((if_neg c_2).trans rfl)) (K ls _ rfl (lv_sub hl [2, 0] rfl))
def X8_channels_s (t : ct_St) : ct_St :=
  let t1 := X8_channels_it 0 t
  let t2 := X8_channels_it 1 t1
  let t3 := X8_channels_it 2 t2
  let t4 := X8_channels_it 3 t3
  t4
set_option maxHeartbeats 4000000 in
set_option maxRecDepth 100000 in
theorem c_X8_channels (l : Launch) (g : ct_G) (t : ct_St) (hc : okM t) : MV l g shG yX8_channels wsX8_channels (rmd 1) [.ref (g.2.1 30)] t (X8_channels_s t) := by
  refine MV.of (own := RX8) (cc := cX8_channels) (maxL := 3) rfl (by decide) rfl (Nat.le_of_ble_eq_true rfl) (fun p e s m args below meth cd A Q C hret ls hl => ?_)
  have hl : lv_has ls 3 [(0, .ref (g.2.1 30))] := hl
  refine v_iconst (v := 0) C dX8_channels_0 (by decide) ?_
  refine v_istore_n (lv' := [(1, _), (0, _)]) C dX8_channels_1 rfl hl (by decide) rfl (fun ls hl => ?_)
  refine cb_X8_channels l g C _ 0 vl_0_4 hc (fun ls x1 hx1 hl => ?_) ls (lv_sub hl [1, 0] rfl)
  obtain rfl : x1 = 1 := hx1.trans (by decide)
  refine cb_X8_channels l g C _ 1 vl_1_4 (ok_X8_channels_it _ _ hc) (fun ls x1 hx1 hl => ?_) ls (lv_sub hl [0, 1] rfl)
  obtain rfl : x1 = 2 := hx1.trans (by decide)
  refine cb_X8_channels l g C _ 2 vl_2_4 (ok_X8_channels_it _ _ (ok_X8_channels_it _ _ hc)) (fun ls x1 hx1 hl => ?_) ls (lv_sub hl [0, 1] rfl)
  obtain rfl : x1 = 3 := hx1.trans (by decide)
  refine cb_X8_channels l g C _ 3 vl_3_4 (ok_X8_channels_it _ _ (ok_X8_channels_it _ _ (ok_X8_channels_it _ _ hc))) (fun ls x1 hx1 hl => ?_) ls (lv_sub hl [0, 1] rfl)
  obtain rfl : x1 = 4 := hx1.trans (by decide)
  refine v_iload_n C dX8_channels_2 rfl (lv_at hl 1 rfl) ?_
  refine v_iconst (v := 4) C dX8_channels_3 (by decide) ?_
  refine v_icmp_ge (tgt := 70) C dX8_channels_4 (by decide) (fun _ => ?_) (fun h => absurd h (by decide))
  exact hret _ _ _ rfl dX8_channels_70
theorem ok_X8_channels_s (t : ct_St) (h : okM t) : okM (X8_channels_s t) := ok_X8_channels_it _ _ (ok_X8_channels_it _ _ (ok_X8_channels_it _ _ (ok_X8_channels_it _ _ h)))
theorem X8_channels_s_fr (t : ct_St) {r : Nat} (h57 : r ≠ 57) (h58 : r ≠ 58) : X8_channels_s t r = t r := by
  dsimp only [X8_channels_s]
  (repeat' split) <;> simp only [us_ne, h57, h58, ne_eq, not_false_eq_true, X8_channels_it_fr]
theorem iX8_isOn_X8 : ∀ w ∈ wsX80, w ∈ wsX8_isOn := fun _ h => (List.mem_cons_of_mem _ (List.mem_append_right _ h))
theorem hv_X8_isOn : yX8_isOn.cls = RX8 ∧ yX8_isOn.cls ≠ "java/lang/invoke/MethodHandle" ∧ yX8_isOn.cls ≠ "java/lang/invoke/VarHandle" ∧ (parseMethodDescriptor yX8_isOn.desc).map (fun d => d.parameters.length) = some 2 := by decide +kernel
def X8_isOn_r (a1 : Int32) (a2 : Int32) (t : ct_St) : Int32 :=
  if t 55 (ix a1) = 0 then
    0
  else
    if t 30 32 = 0 then
      if t 57 (ix a1) = 1 - a2 then
        if t 58 (ix a1) ≤ t 59 (ix a1) then
          0
        else
          1
      else
        0
    else
      0
set_option maxHeartbeats 4000000 in
set_option maxRecDepth 100000 in
theorem c_X8_isOn (l : Launch) (g : ct_G) (t : ct_St) (a1 : Int32) (a2 : Int32) (h1 : vp_in a1 4) : MI l g shG yX8_isOn wsX8_isOn (rmd 0) [.ref (g.2.1 30), .int a1, .int a2] t (X8_isOn_r a1 a2 t) t := by
  refine MZ.of (own := RX8) (cc := cX8_isOn) (maxL := 3) rfl (by decide) rfl (Nat.le_of_ble_eq_true rfl) (fun p e s m args below meth cd A Q C hret ls hl => ?_)
  have hl : lv_has ls 3 [(0, .ref (g.2.1 30)), (1, .int a1), (2, .int a2)] := hl
  refine v_aload_n C dX8_isOn_0 rfl (lv_at hl 0 rfl) ?_
  refine v_getR C iX8_isOn_X8 k_30 rfl rfl (j := 25) rfl (by decide) rfl (C.w 1 rfl) dX8_isOn_1 ?_
  refine v_iload_n C dX8_isOn_4 rfl (lv_at hl 1 rfl) ?_
  refine v_iald C k_55 rfl h1 dX8_isOn_5 ?_
  refine v_if_eq (tgt := 47) C dX8_isOn_6 (by decide) (fun c_1 => ?_) (fun c_1 => ?_)
  · refine v_iconst (v := 0) C dX8_isOn_47 (by decide) ?_
    exact hret _ _ _ _ (Eq.symm ((if_pos c_1).trans rfl)) rfl rfl dX8_isOn_48
  · refine v_aload_n C dX8_isOn_9 rfl (lv_at hl 0 rfl) ?_
    refine v_getI C iX8_isOn_X8 k_30 rfl rfl (j := 32) rfl (by decide) rfl (C.w 2 rfl) dX8_isOn_10 ?_
    refine v_if_ne (tgt := 47) C dX8_isOn_13 (by decide) (fun c_2 => ?_) (fun c_2 => ?_)
    · refine v_iconst (v := 0) C dX8_isOn_47 (by decide) ?_
      exact hret _ _ _ _ (Eq.symm ((if_neg c_1).trans ((if_neg c_2).trans rfl))) rfl rfl dX8_isOn_48
    · refine v_aload_n C dX8_isOn_16 rfl (lv_at hl 0 rfl) ?_
      refine v_getR C iX8_isOn_X8 k_30 rfl rfl (j := 27) rfl (by decide) rfl (C.w 3 rfl) dX8_isOn_17 ?_
      refine v_iload_n C dX8_isOn_20 rfl (lv_at hl 1 rfl) ?_
      refine v_iald C k_57 rfl h1 dX8_isOn_21 ?_
      refine v_iconst (v := 1) C dX8_isOn_22 (by decide) ?_
      refine v_iload_n C dX8_isOn_23 rfl (lv_at hl 2 rfl) ?_
      refine v_isub C dX8_isOn_24 ?_
      refine v_icmp_ne (tgt := 47) C dX8_isOn_25 (by decide) (fun c_3 => ?_) (fun c_3 => ?_)
      · refine v_iconst (v := 0) C dX8_isOn_47 (by decide) ?_
        exact hret _ _ _ _ (Eq.symm ((if_neg c_1).trans ((if_pos c_2).trans ((if_neg c_3).trans rfl)))) rfl rfl dX8_isOn_48
      · refine v_aload_n C dX8_isOn_28 rfl (lv_at hl 0 rfl) ?_
        refine v_getR C iX8_isOn_X8 k_30 rfl rfl (j := 28) rfl (by decide) rfl (C.w 4 rfl) dX8_isOn_29 ?_
        refine v_iload_n C dX8_isOn_32 rfl (lv_at hl 1 rfl) ?_
        refine v_iald C k_58 rfl h1 dX8_isOn_33 ?_
        refine v_aload_n C dX8_isOn_34 rfl (lv_at hl 0 rfl) ?_
        refine v_getR C iX8_isOn_X8 k_30 rfl rfl (j := 29) rfl (by decide) rfl (C.w 5 rfl) dX8_isOn_35 ?_
        refine v_iload_n C dX8_isOn_38 rfl (lv_at hl 1 rfl) ?_
        refine v_iald C k_59 rfl h1 dX8_isOn_39 ?_
        refine v_icmp_le (tgt := 47) C dX8_isOn_40 (by decide) (fun c_4 => ?_) (fun c_4 => ?_)
        · refine v_iconst (v := 0) C dX8_isOn_47 (by decide) ?_
          exact hret _ _ _ _ (Eq.symm ((if_neg c_1).trans ((if_pos c_2).trans ((if_pos c_3).trans ((if_pos c_4).trans rfl))))) rfl rfl dX8_isOn_48
        · refine v_iconst (v := 1) C dX8_isOn_43 (by decide) ?_
          refine v_goto (tgt := 48) C dX8_isOn_44 (by decide) ?_
          exact hret _ _ _ _ (Eq.symm ((if_neg c_1).trans ((if_pos c_2).trans ((if_pos c_3).trans ((if_neg c_4).trans rfl))))) rfl rfl dX8_isOn_48
theorem X8_isOn_z (a1 : Int32) (a2 : Int32) (t : ct_St) : narrow .boolean (.int (X8_isOn_r a1 a2 t)) = .int (X8_isOn_r a1 a2 t) := by
  unfold X8_isOn_r
  (repeat' split) <;> first | rfl
theorem iX8_pinThen_X8 : ∀ w ∈ wsX80, w ∈ wsX8_pinThen := fun _ h => (List.mem_cons_of_mem _ (List.mem_append_right _ h))
theorem hv_X8_pinThen : yX8_pinThen.cls = RX8 ∧ yX8_pinThen.cls ≠ "java/lang/invoke/MethodHandle" ∧ yX8_pinThen.cls ≠ "java/lang/invoke/VarHandle" ∧ (parseMethodDescriptor yX8_pinThen.desc).map (fun d => d.parameters.length) = some 2 := by decide +kernel
def X8_pinThen_r (a1 : Int32) (a2 : Int32) (t : ct_St) : Int32 :=
  if t 30 32 = 0 then
    if ((t 60 (ix a1)) >>> (a2 &&& 31)) &&& 1 = 1 then
      if X8_isOn_r a1 a2 t = 1 then
        0
      else
        1
    else
      if X8_isOn_r a1 a2 t = 0 then
        0
      else
        1
  else
    ((t 61 (ix a1)) >>> (a2 &&& 31)) &&& 1
set_option maxHeartbeats 4000000 in
set_option maxRecDepth 100000 in
theorem c_X8_pinThen (l : Launch) (g : ct_G) (t : ct_St) (a1 : Int32) (a2 : Int32) (h1 : vp_in a1 4) : MI l g shG yX8_pinThen wsX8_pinThen (rmd 1) [.ref (g.2.1 30), .int a1, .int a2] t (X8_pinThen_r a1 a2 t) t := by
  refine MI.of (own := RX8) (cc := cX8_pinThen) (maxL := 3) rfl (by decide) rfl (Nat.le_of_ble_eq_true rfl) (fun p e s m args below meth cd A Q C hret ls hl => ?_)
  have hl : lv_has ls 3 [(0, .ref (g.2.1 30)), (1, .int a1), (2, .int a2)] := hl
  refine v_aload_n C dX8_pinThen_0 rfl (lv_at hl 0 rfl) ?_
  refine v_getI C iX8_pinThen_X8 k_30 rfl rfl (j := 32) rfl (by decide) rfl (C.w 1 rfl) dX8_pinThen_1 ?_
  refine v_if_eq (tgt := 18) C dX8_pinThen_4 (by decide) (fun c_1 => ?_) (fun c_1 => ?_)
  · refine v_aload_n C dX8_pinThen_18 rfl (lv_at hl 0 rfl) ?_
    refine v_iload_n C dX8_pinThen_19 rfl (lv_at hl 1 rfl) ?_
    refine v_iload_n C dX8_pinThen_20 rfl (lv_at hl 2 rfl) ?_
    refine v_calli C (c_X8_isOn l g _ _ _ h1) (cwV 2 C.2.2.2.2.1 gX8_pinThen_X8_isOn rfl rfl rfl hv_X8_isOn ⟨Nat.le_of_ble_eq_true rfl, Nat.le_of_ble_eq_true rfl⟩) k_30 rfl rfl rfl rfl hl.1 rfl (Nat.le_of_ble_eq_true rfl) dX8_pinThen_21 ⟨Nat.le_refl _, Nat.le_refl _⟩ ?_
    refine v_aload_n C dX8_pinThen_24 rfl (lv_at hl 0 rfl) ?_
    refine v_getR C iX8_pinThen_X8 k_30 rfl rfl (j := 30) rfl (by decide) rfl (C.w 3 rfl) dX8_pinThen_25 ?_
    refine v_iload_n C dX8_pinThen_28 rfl (lv_at hl 1 rfl) ?_
    refine v_iald C k_60 rfl h1 dX8_pinThen_29 ?_
    refine v_iload_n C dX8_pinThen_30 rfl (lv_at hl 2 rfl) ?_
    refine v_ishr C dX8_pinThen_31 ?_
    refine v_iconst (v := 1) C dX8_pinThen_32 (by decide) ?_
    refine v_iand C dX8_pinThen_33 ?_
    refine v_iconst (v := 1) C dX8_pinThen_34 (by decide) ?_
    refine v_icmp_ne (tgt := 42) C dX8_pinThen_35 (by decide) (fun c_2 => ?_) (fun c_2 => ?_)
    · refine v_iconst (v := 0) C dX8_pinThen_42 (by decide) ?_
      refine v_icmp_ne (tgt := 50) C dX8_pinThen_43 (by decide) (fun c_3 => ?_) (fun c_3 => ?_)
      · refine v_iconst (v := 1) C dX8_pinThen_50 (by decide) ?_
        exact hret _ _ _ _ (Eq.symm ((if_pos c_1).trans ((if_neg c_2).trans ((if_neg c_3).trans rfl)))) rfl dX8_pinThen_51
      · refine v_iconst (v := 0) C dX8_pinThen_46 (by decide) ?_
        refine v_goto (tgt := 51) C dX8_pinThen_47 (by decide) ?_
        exact hret _ _ _ _ (Eq.symm ((if_pos c_1).trans ((if_neg c_2).trans ((if_pos c_3).trans rfl)))) rfl dX8_pinThen_51
    · refine v_iconst (v := 1) C dX8_pinThen_38 (by decide) ?_
      refine v_goto (tgt := 43) C dX8_pinThen_39 (by decide) ?_
      refine v_icmp_ne (tgt := 50) C dX8_pinThen_43 (by decide) (fun c_4 => ?_) (fun c_4 => ?_)
      · refine v_iconst (v := 1) C dX8_pinThen_50 (by decide) ?_
        exact hret _ _ _ _ (Eq.symm ((if_pos c_1).trans ((if_pos c_2).trans ((if_neg c_4).trans rfl)))) rfl dX8_pinThen_51
      · refine v_iconst (v := 0) C dX8_pinThen_46 (by decide) ?_
        refine v_goto (tgt := 51) C dX8_pinThen_47 (by decide) ?_
        exact hret _ _ _ _ (Eq.symm ((if_pos c_1).trans ((if_pos c_2).trans ((if_pos c_4).trans rfl)))) rfl dX8_pinThen_51
  · refine v_aload_n C dX8_pinThen_7 rfl (lv_at hl 0 rfl) ?_
    refine v_getR C iX8_pinThen_X8 k_30 rfl rfl (j := 31) rfl (by decide) rfl (C.w 2 rfl) dX8_pinThen_8 ?_
    refine v_iload_n C dX8_pinThen_11 rfl (lv_at hl 1 rfl) ?_
    refine v_iald C k_61 rfl h1 dX8_pinThen_12 ?_
    refine v_iload_n C dX8_pinThen_13 rfl (lv_at hl 2 rfl) ?_
    refine v_ishr C dX8_pinThen_14 ?_
    refine v_iconst (v := 1) C dX8_pinThen_15 (by decide) ?_
    refine v_iand C dX8_pinThen_16 ?_
    exact hret _ _ _ _ (Eq.symm ((if_neg c_1).trans rfl)) rfl dX8_pinThen_17
theorem hv_X8_onOf : yX8_onOf.cls = RX8 ∧ yX8_onOf.cls ≠ "java/lang/invoke/MethodHandle" ∧ yX8_onOf.cls ≠ "java/lang/invoke/VarHandle" ∧ (parseMethodDescriptor yX8_onOf.desc).map (fun d => d.parameters.length) = some 1 := by decide +kernel
def X8_onOf_r (a1 : Int32) (t : ct_St) : Int32 :=
  if X8_isOn_r a1 0 t = 0 then
    if X8_isOn_r a1 1 t = 0 then
      0
    else
      2
  else
    if X8_isOn_r a1 1 t = 0 then
      1
    else
      3
set_option maxHeartbeats 4000000 in
set_option maxRecDepth 100000 in
theorem c_X8_onOf (l : Launch) (g : ct_G) (t : ct_St) (a1 : Int32) (h1 : vp_in a1 4) : MI l g shG yX8_onOf wsX8_onOf (rmd 1) [.ref (g.2.1 30), .int a1] t (X8_onOf_r a1 t) t := by
  refine MI.of (own := RX8) (cc := cX8_onOf) (maxL := 2) rfl (by decide) rfl (Nat.le_of_ble_eq_true rfl) (fun p e s m args below meth cd A Q C hret ls hl => ?_)
  have hl : lv_has ls 2 [(0, .ref (g.2.1 30)), (1, .int a1)] := hl
  refine v_aload_n C dX8_onOf_0 rfl (lv_at hl 0 rfl) ?_
  refine v_iload_n C dX8_onOf_1 rfl (lv_at hl 1 rfl) ?_
  refine v_iconst (v := 0) C dX8_onOf_2 (by decide) ?_
  refine v_calli C (c_X8_isOn l g _ _ _ h1) (cwV 2 C.2.2.2.2.1 gX8_onOf_X8_isOn rfl rfl rfl hv_X8_isOn ⟨Nat.le_of_ble_eq_true rfl, Nat.le_of_ble_eq_true rfl⟩) k_30 rfl rfl rfl rfl hl.1 rfl (Nat.le_of_ble_eq_true rfl) dX8_onOf_3 ⟨Nat.le_refl _, Nat.le_refl _⟩ ?_
  refine v_if_eq (tgt := 13) C dX8_onOf_6 (by decide) (fun c_1 => ?_) (fun c_1 => ?_)
  · refine v_iconst (v := 0) C dX8_onOf_13 (by decide) ?_
    refine v_aload_n C dX8_onOf_14 rfl (lv_at hl 0 rfl) ?_
    refine v_iload_n C dX8_onOf_15 rfl (lv_at hl 1 rfl) ?_
    refine v_iconst (v := 1) C dX8_onOf_16 (by decide) ?_
    refine v_calli C (c_X8_isOn l g _ _ _ h1) (cwV 2 C.2.2.2.2.1 gX8_onOf_X8_isOn rfl rfl rfl hv_X8_isOn ⟨Nat.le_of_ble_eq_true rfl, Nat.le_of_ble_eq_true rfl⟩) k_30 rfl rfl rfl rfl hl.1 rfl (Nat.le_of_ble_eq_true rfl) dX8_onOf_17 ⟨Nat.le_refl _, Nat.le_refl _⟩ ?_
    refine v_if_eq (tgt := 27) C dX8_onOf_20 (by decide) (fun c_2 => ?_) (fun c_2 => ?_)
    · refine v_iconst (v := 0) C dX8_onOf_27 (by decide) ?_
      refine v_iadd C dX8_onOf_28 ?_
      refine v_lit (v := 0) (by decide) ?_
      exact hret _ _ _ _ (Eq.symm ((if_pos c_1).trans ((if_pos c_2).trans rfl))) rfl dX8_onOf_29
    · refine v_iconst (v := 2) C dX8_onOf_23 (by decide) ?_
      refine v_goto (tgt := 28) C dX8_onOf_24 (by decide) ?_
      refine v_iadd C dX8_onOf_28 ?_
      refine v_lit (v := 2) (by decide) ?_
      exact hret _ _ _ _ (Eq.symm ((if_pos c_1).trans ((if_neg c_2).trans rfl))) rfl dX8_onOf_29
  · refine v_iconst (v := 1) C dX8_onOf_9 (by decide) ?_
    refine v_goto (tgt := 14) C dX8_onOf_10 (by decide) ?_
    refine v_aload_n C dX8_onOf_14 rfl (lv_at hl 0 rfl) ?_
    refine v_iload_n C dX8_onOf_15 rfl (lv_at hl 1 rfl) ?_
    refine v_iconst (v := 1) C dX8_onOf_16 (by decide) ?_
    refine v_calli C (c_X8_isOn l g _ _ _ h1) (cwV 2 C.2.2.2.2.1 gX8_onOf_X8_isOn rfl rfl rfl hv_X8_isOn ⟨Nat.le_of_ble_eq_true rfl, Nat.le_of_ble_eq_true rfl⟩) k_30 rfl rfl rfl rfl hl.1 rfl (Nat.le_of_ble_eq_true rfl) dX8_onOf_17 ⟨Nat.le_refl _, Nat.le_refl _⟩ ?_
    refine v_if_eq (tgt := 27) C dX8_onOf_20 (by decide) (fun c_3 => ?_) (fun c_3 => ?_)
    · refine v_iconst (v := 0) C dX8_onOf_27 (by decide) ?_
      refine v_iadd C dX8_onOf_28 ?_
      refine v_lit (v := 1) (by decide) ?_
      exact hret _ _ _ _ (Eq.symm ((if_neg c_1).trans ((if_pos c_3).trans rfl))) rfl dX8_onOf_29
    · refine v_iconst (v := 2) C dX8_onOf_23 (by decide) ?_
      refine v_goto (tgt := 28) C dX8_onOf_24 (by decide) ?_
      refine v_iadd C dX8_onOf_28 ?_
      refine v_lit (v := 3) (by decide) ?_
      exact hret _ _ _ _ (Eq.symm ((if_neg c_1).trans ((if_neg c_3).trans rfl))) rfl dX8_onOf_29
theorem iX8_enters_X8 : ∀ w ∈ wsX80, w ∈ wsX8_enters := fun _ h => (List.mem_cons_of_mem _ (List.mem_append_right _ h))
theorem ent_in {e : Int32} (h : e = 24) : vp_in (e - 1) 24 := by subst h; unfold vp_in; decide
theorem ent_in2 {e : Int32} (he : vp_in e 25) (h : ¬ e = 24) : vp_in e 24 := by
  obtain ⟨j, hj, rfl⟩ := vp_in_of he (by decide)
  refine vp_in_nI ?_ (by decide)
  rcases Nat.lt_or_ge j 24 with q | q
  · exact q
  · exact absurd (by rw [show j = 24 by omega]; rfl) h
theorem ent_up {e : Int32} (h : vp_in e 24) : vp_in (e + 1) 25 := by
  obtain ⟨j, hj, rfl⟩ := vp_in_of h (by decide)
  rw [nI_1]
  exact vp_in_nI (by omega) (by decide)

theorem hv_X8_enters : yX8_enters.cls = RX8 ∧ yX8_enters.cls ≠ "java/lang/invoke/MethodHandle" ∧ yX8_enters.cls ≠ "java/lang/invoke/VarHandle" ∧ (parseMethodDescriptor yX8_enters.desc).map (fun d => d.parameters.length) = some 1 := by decide +kernel
def X8_enters_it (a1 : Int32) (x : Int32) (t : ct_St) : ct_St :=
  let t1 := us t 63 (ix (x - 1)) (t 63 (ix x))
  let t2 := us t1 64 (ix (x - 1)) (t1 64 (ix x))
  let t3 := us t2 65 (ix (x - 1)) (t2 65 (ix x))
  t3
theorem X8_enters_it_fr (a1 : Int32) (x : Int32) (t : ct_St) {r : Nat} (h63 : r ≠ 63) (h64 : r ≠ 64) (h65 : r ≠ 65) : X8_enters_it a1 x t r = t r := by
  dsimp only [X8_enters_it]
  (repeat' split) <;> simp only [us_ne, h63, h64, h65, ne_eq, not_false_eq_true]

set_option maxHeartbeats 4000000 in
set_option maxRecDepth 100000 in
theorem cb_X8_enters {p : Program} {e : Env} {s : State} {m : MethodId} {args : Array Value} {below : List Frame} {meth : Method} {cd : Code} {A : Nat → Prop} {Q : State → Prop} (l : Launch) (g : ct_G) (C : Cx p s m args cd A g cX8_enters RX8 wsX8_enters 3) (t : ct_St) (a1 : Int32) (x : Int32) (hx : vp_in x 24) (h2 : vp_in (x - 1) 24) (K : ∀ (ls : Array Slot) (x1 : Int32), x1 = x + 1 → lv_has ls 3 [(0, .ref (g.2.1 30)), (1, .int a1), (2, .int x1)] → VW p l e (rmd 0) s m args below meth cd 0 0 Q A g shG (X8_enters_it a1 x t) (F0 m 11 ls [])) (ls : Array Slot) (hl : lv_has ls 3 [(0, .ref (g.2.1 30)), (1, .int a1), (2, .int x)]) : VW p l e (rmd 0) s m args below meth cd 0 0 Q A g shG t (F0 m 11 ls []) := by
  refine v_iload_n C dX8_enters_11 rfl (lv_at hl 2 rfl) ?_
  refine v_bipush (v := 24) C dX8_enters_12 (by decide) ?_
  refine v_icmp_ge (tgt := 65) C dX8_enters_14 (by decide) (fun h => absurd h ((vp_nle hx (by decide)))) (fun _ => ?_)
  refine v_aload_n C dX8_enters_17 rfl (lv_at hl 0 rfl) ?_
  refine v_getR C iX8_enters_X8 k_30 rfl rfl (j := 35) rfl (by decide) rfl (C.w 2 rfl) dX8_enters_18 ?_
  refine v_iload_n C dX8_enters_21 rfl (lv_at hl 2 rfl) ?_
  refine v_iconst (v := 1) C dX8_enters_22 (by decide) ?_
  refine v_isub C dX8_enters_23 ?_
  refine v_aload_n C dX8_enters_24 rfl (lv_at hl 0 rfl) ?_
  refine v_getR C iX8_enters_X8 k_30 rfl rfl (j := 35) rfl (by decide) rfl (C.w 2 rfl) dX8_enters_25 ?_
  refine v_iload_n C dX8_enters_28 rfl (lv_at hl 2 rfl) ?_
  refine v_iald C k_63 rfl hx dX8_enters_29 ?_
  refine v_iast C k_63 rfl h2 dX8_enters_30 ?_
  refine v_aload_n C dX8_enters_31 rfl (lv_at hl 0 rfl) ?_
  refine v_getR C iX8_enters_X8 k_30 rfl rfl (j := 36) rfl (by decide) rfl (C.w 3 rfl) dX8_enters_32 ?_
  refine v_iload_n C dX8_enters_35 rfl (lv_at hl 2 rfl) ?_
  refine v_iconst (v := 1) C dX8_enters_36 (by decide) ?_
  refine v_isub C dX8_enters_37 ?_
  refine v_aload_n C dX8_enters_38 rfl (lv_at hl 0 rfl) ?_
  refine v_getR C iX8_enters_X8 k_30 rfl rfl (j := 36) rfl (by decide) rfl (C.w 3 rfl) dX8_enters_39 ?_
  refine v_iload_n C dX8_enters_42 rfl (lv_at hl 2 rfl) ?_
  refine v_iald C k_64 rfl hx dX8_enters_43 ?_
  refine v_iast C k_64 rfl h2 dX8_enters_44 ?_
  refine v_aload_n C dX8_enters_45 rfl (lv_at hl 0 rfl) ?_
  refine v_getR C iX8_enters_X8 k_30 rfl rfl (j := 37) rfl (by decide) rfl (C.w 4 rfl) dX8_enters_46 ?_
  refine v_iload_n C dX8_enters_49 rfl (lv_at hl 2 rfl) ?_
  refine v_iconst (v := 1) C dX8_enters_50 (by decide) ?_
  refine v_isub C dX8_enters_51 ?_
  refine v_aload_n C dX8_enters_52 rfl (lv_at hl 0 rfl) ?_
  refine v_getR C iX8_enters_X8 k_30 rfl rfl (j := 37) rfl (by decide) rfl (C.w 4 rfl) dX8_enters_53 ?_
  refine v_iload_n C dX8_enters_56 rfl (lv_at hl 2 rfl) ?_
  refine v_iald C k_65 rfl hx dX8_enters_57 ?_
  refine v_iast C k_65 rfl h2 dX8_enters_58 ?_
  refine v_iinc (k0 := 2) (v := _ + 1) (lv' := [(2, _), (0, _), (1, _)]) C dX8_enters_59 hl rfl rfl (by decide) rfl (fun ls hl => ?_)
  refine v_goto (tgt := 11) C dX8_enters_62 (by decide) ?_
  exact VW.st rfl (K ls _ rfl (lv_sub hl [1, 2, 0] rfl))
def X8_enters_s (a1 : Int32) (t : ct_St) : ct_St :=
  if t 30 34 = 24 then
    let t5 := X8_enters_it a1 1 t
    let t6 := X8_enters_it a1 2 t5
    let t7 := X8_enters_it a1 3 t6
    let t8 := X8_enters_it a1 4 t7
    let t9 := X8_enters_it a1 5 t8
    let t10 := X8_enters_it a1 6 t9
    let t11 := X8_enters_it a1 7 t10
    let t12 := X8_enters_it a1 8 t11
    let t13 := X8_enters_it a1 9 t12
    let t14 := X8_enters_it a1 10 t13
    let t15 := X8_enters_it a1 11 t14
    let t16 := X8_enters_it a1 12 t15
    let t17 := X8_enters_it a1 13 t16
    let t18 := X8_enters_it a1 14 t17
    let t19 := X8_enters_it a1 15 t18
    let t20 := X8_enters_it a1 16 t19
    let t21 := X8_enters_it a1 17 t20
    let t22 := X8_enters_it a1 18 t21
    let t23 := X8_enters_it a1 19 t22
    let t24 := X8_enters_it a1 20 t23
    let t25 := X8_enters_it a1 21 t24
    let t26 := X8_enters_it a1 22 t25
    let t27 := X8_enters_it a1 23 t26
    let t28 := us t27 30 34 ((t27 30 34) - 1)
    let t29 := us t28 63 (ix (t28 30 34)) (t28 30 0)
    let t30 := us t29 64 (ix (t29 30 34)) a1
    let t31 := us t30 65 (ix (t30 30 34)) (t30 62 (ix a1))
    let t32 := us t31 30 34 ((t31 30 34) + 1)
    t32
  else
    let t1 := us t 63 (ix (t 30 34)) (t 30 0)
    let t2 := us t1 64 (ix (t1 30 34)) a1
    let t3 := us t2 65 (ix (t2 30 34)) (t2 62 (ix a1))
    let t4 := us t3 30 34 ((t3 30 34) + 1)
    t4
set_option maxHeartbeats 4000000 in
set_option maxRecDepth 100000 in
theorem c_X8_enters (l : Launch) (g : ct_G) (t : ct_St) (a1 : Int32) (h1 : vp_in a1 8) (he : vp_in (t 30 34) 25) : MV l g shG yX8_enters wsX8_enters (rmd 0) [.ref (g.2.1 30), .int a1] t (X8_enters_s a1 t) := by
  refine MV.of (own := RX8) (cc := cX8_enters) (maxL := 3) rfl (by decide) rfl (Nat.le_of_ble_eq_true rfl) (fun p e s m args below meth cd A Q C hret ls hl => ?_)
  have hl : lv_has ls 3 [(0, .ref (g.2.1 30)), (1, .int a1)] := hl
  refine v_aload_n C dX8_enters_0 rfl (lv_at hl 0 rfl) ?_
  refine v_getI C iX8_enters_X8 k_30 rfl rfl (j := 34) rfl (by decide) rfl (C.w 1 rfl) dX8_enters_1 ?_
  refine v_bipush (v := 24) C dX8_enters_4 (by decide) ?_
  refine v_icmp_ne (tgt := 75) C dX8_enters_6 (by decide) (fun c_1 => ?_) (fun c_1 => ?_)
  · refine v_aload_n C dX8_enters_75 rfl (lv_at hl 0 rfl) ?_
    refine v_getR C iX8_enters_X8 k_30 rfl rfl (j := 35) rfl (by decide) rfl (C.w 2 rfl) dX8_enters_76 ?_
    refine v_aload_n C dX8_enters_79 rfl (lv_at hl 0 rfl) ?_
    refine v_getI C iX8_enters_X8 k_30 rfl rfl (j := 34) rfl (by decide) rfl (C.w 1 rfl) dX8_enters_80 ?_
    refine v_aload_n C dX8_enters_83 rfl (lv_at hl 0 rfl) ?_
    refine v_getI C iX8_enters_X8 k_30 rfl rfl (j := 0) rfl (by decide) rfl (C.w 5 rfl) dX8_enters_84 ?_
    refine v_iast C k_63 rfl (ent_in2 he c_1) dX8_enters_87 ?_
    refine v_aload_n C dX8_enters_88 rfl (lv_at hl 0 rfl) ?_
    refine v_getR C iX8_enters_X8 k_30 rfl rfl (j := 36) rfl (by decide) rfl (C.w 3 rfl) dX8_enters_89 ?_
    refine v_aload_n C dX8_enters_92 rfl (lv_at hl 0 rfl) ?_
    refine v_getI C iX8_enters_X8 k_30 rfl rfl (j := 34) rfl (by decide) rfl (C.w 1 rfl) dX8_enters_93 ?_
    refine v_iload_n C dX8_enters_96 rfl (lv_at hl 1 rfl) ?_
    refine v_iast C k_64 rfl (ent_in2 he c_1) dX8_enters_97 ?_
    refine v_aload_n C dX8_enters_98 rfl (lv_at hl 0 rfl) ?_
    refine v_getR C iX8_enters_X8 k_30 rfl rfl (j := 37) rfl (by decide) rfl (C.w 4 rfl) dX8_enters_99 ?_
    refine v_aload_n C dX8_enters_102 rfl (lv_at hl 0 rfl) ?_
    refine v_getI C iX8_enters_X8 k_30 rfl rfl (j := 34) rfl (by decide) rfl (C.w 1 rfl) dX8_enters_103 ?_
    refine v_aload_n C dX8_enters_106 rfl (lv_at hl 0 rfl) ?_
    refine v_getR C iX8_enters_X8 k_30 rfl rfl (j := 33) rfl (by decide) rfl (C.w 6 rfl) dX8_enters_107 ?_
    refine v_iload_n C dX8_enters_110 rfl (lv_at hl 1 rfl) ?_
    refine v_iald C k_62 rfl h1 dX8_enters_111 ?_
    refine v_iast C k_65 rfl (ent_in2 he c_1) dX8_enters_112 ?_
    refine v_aload_n C dX8_enters_113 rfl (lv_at hl 0 rfl) ?_
    refine v_dup C dX8_enters_114 rfl ?_
    refine v_getI C iX8_enters_X8 k_30 rfl rfl (j := 34) rfl (by decide) rfl (C.w 1 rfl) dX8_enters_115 ?_
    refine v_iconst (v := 1) C dX8_enters_118 (by decide) ?_
    refine v_iadd C dX8_enters_119 ?_
    refine v_put C iX8_enters_X8 tyX8 tyX8_ok nmX8 k_30 rfl rfl (j := 34) rfl (by decide) rfl (C.w 1 rfl) rfl rfl rfl dX8_enters_120 ?_
    exact hret _ _ _ (Eq.symm ((if_neg c_1).trans rfl)) dX8_enters_123
  · refine v_iconst (v := 1) C dX8_enters_9 (by decide) ?_
    refine v_istore_n (lv' := [(2, _), (0, _), (1, _)]) C dX8_enters_10 rfl hl (by decide) rfl (fun ls hl => ?_)
    refine cb_X8_enters l g C _ a1 1 vl_1_24 (by unfold vp_in; decide) (fun ls x1 hx1 hl => ?_) ls (lv_sub hl [1, 2, 0] rfl)
    obtain rfl : x1 = 2 := hx1.trans (by decide)
    refine cb_X8_enters l g C _ a1 2 vl_2_24 (by unfold vp_in; decide) (fun ls x1 hx1 hl => ?_) ls (lv_sub hl [0, 1, 2] rfl)
    obtain rfl : x1 = 3 := hx1.trans (by decide)
    refine cb_X8_enters l g C _ a1 3 vl_3_24 (by unfold vp_in; decide) (fun ls x1 hx1 hl => ?_) ls (lv_sub hl [0, 1, 2] rfl)
    obtain rfl : x1 = 4 := hx1.trans (by decide)
    refine cb_X8_enters l g C _ a1 4 vl_4_24 (by unfold vp_in; decide) (fun ls x1 hx1 hl => ?_) ls (lv_sub hl [0, 1, 2] rfl)
    obtain rfl : x1 = 5 := hx1.trans (by decide)
    refine cb_X8_enters l g C _ a1 5 vl_5_24 (by unfold vp_in; decide) (fun ls x1 hx1 hl => ?_) ls (lv_sub hl [0, 1, 2] rfl)
    obtain rfl : x1 = 6 := hx1.trans (by decide)
    refine cb_X8_enters l g C _ a1 6 vl_6_24 (by unfold vp_in; decide) (fun ls x1 hx1 hl => ?_) ls (lv_sub hl [0, 1, 2] rfl)
    obtain rfl : x1 = 7 := hx1.trans (by decide)
    refine cb_X8_enters l g C _ a1 7 vl_7_24 (by unfold vp_in; decide) (fun ls x1 hx1 hl => ?_) ls (lv_sub hl [0, 1, 2] rfl)
    obtain rfl : x1 = 8 := hx1.trans (by decide)
    refine cb_X8_enters l g C _ a1 8 vl_8_24 (by unfold vp_in; decide) (fun ls x1 hx1 hl => ?_) ls (lv_sub hl [0, 1, 2] rfl)
    obtain rfl : x1 = 9 := hx1.trans (by decide)
    refine cb_X8_enters l g C _ a1 9 vl_9_24 (by unfold vp_in; decide) (fun ls x1 hx1 hl => ?_) ls (lv_sub hl [0, 1, 2] rfl)
    obtain rfl : x1 = 10 := hx1.trans (by decide)
    refine cb_X8_enters l g C _ a1 10 vl_10_24 (by unfold vp_in; decide) (fun ls x1 hx1 hl => ?_) ls (lv_sub hl [0, 1, 2] rfl)
    obtain rfl : x1 = 11 := hx1.trans (by decide)
    refine cb_X8_enters l g C _ a1 11 vl_11_24 (by unfold vp_in; decide) (fun ls x1 hx1 hl => ?_) ls (lv_sub hl [0, 1, 2] rfl)
    obtain rfl : x1 = 12 := hx1.trans (by decide)
    refine cb_X8_enters l g C _ a1 12 vl_12_24 (by unfold vp_in; decide) (fun ls x1 hx1 hl => ?_) ls (lv_sub hl [0, 1, 2] rfl)
    obtain rfl : x1 = 13 := hx1.trans (by decide)
    refine cb_X8_enters l g C _ a1 13 vl_13_24 (by unfold vp_in; decide) (fun ls x1 hx1 hl => ?_) ls (lv_sub hl [0, 1, 2] rfl)
    obtain rfl : x1 = 14 := hx1.trans (by decide)
    refine cb_X8_enters l g C _ a1 14 vl_14_24 (by unfold vp_in; decide) (fun ls x1 hx1 hl => ?_) ls (lv_sub hl [0, 1, 2] rfl)
    obtain rfl : x1 = 15 := hx1.trans (by decide)
    refine cb_X8_enters l g C _ a1 15 vl_15_24 (by unfold vp_in; decide) (fun ls x1 hx1 hl => ?_) ls (lv_sub hl [0, 1, 2] rfl)
    obtain rfl : x1 = 16 := hx1.trans (by decide)
    refine cb_X8_enters l g C _ a1 16 vl_16_24 (by unfold vp_in; decide) (fun ls x1 hx1 hl => ?_) ls (lv_sub hl [0, 1, 2] rfl)
    obtain rfl : x1 = 17 := hx1.trans (by decide)
    refine cb_X8_enters l g C _ a1 17 vl_17_24 (by unfold vp_in; decide) (fun ls x1 hx1 hl => ?_) ls (lv_sub hl [0, 1, 2] rfl)
    obtain rfl : x1 = 18 := hx1.trans (by decide)
    refine cb_X8_enters l g C _ a1 18 vl_18_24 (by unfold vp_in; decide) (fun ls x1 hx1 hl => ?_) ls (lv_sub hl [0, 1, 2] rfl)
    obtain rfl : x1 = 19 := hx1.trans (by decide)
    refine cb_X8_enters l g C _ a1 19 vl_19_24 (by unfold vp_in; decide) (fun ls x1 hx1 hl => ?_) ls (lv_sub hl [0, 1, 2] rfl)
    obtain rfl : x1 = 20 := hx1.trans (by decide)
    refine cb_X8_enters l g C _ a1 20 vl_20_24 (by unfold vp_in; decide) (fun ls x1 hx1 hl => ?_) ls (lv_sub hl [0, 1, 2] rfl)
    obtain rfl : x1 = 21 := hx1.trans (by decide)
    refine cb_X8_enters l g C _ a1 21 vl_21_24 (by unfold vp_in; decide) (fun ls x1 hx1 hl => ?_) ls (lv_sub hl [0, 1, 2] rfl)
    obtain rfl : x1 = 22 := hx1.trans (by decide)
    refine cb_X8_enters l g C _ a1 22 vl_22_24 (by unfold vp_in; decide) (fun ls x1 hx1 hl => ?_) ls (lv_sub hl [0, 1, 2] rfl)
    obtain rfl : x1 = 23 := hx1.trans (by decide)
    refine cb_X8_enters l g C _ a1 23 vl_23_24 (by unfold vp_in; decide) (fun ls x1 hx1 hl => ?_) ls (lv_sub hl [0, 1, 2] rfl)
    obtain rfl : x1 = 24 := hx1.trans (by decide)
    refine v_iload_n C dX8_enters_11 rfl (lv_at hl 2 rfl) ?_
    refine v_bipush (v := 24) C dX8_enters_12 (by decide) ?_
    refine v_icmp_ge (tgt := 65) C dX8_enters_14 (by decide) (fun _ => ?_) (fun h => absurd h (by decide))
    refine v_aload_n C dX8_enters_65 rfl (lv_at hl 0 rfl) ?_
    refine v_dup C dX8_enters_66 rfl ?_
    refine v_getI C iX8_enters_X8 k_30 rfl rfl (j := 34) rfl (by decide) rfl (C.w 1 rfl) dX8_enters_67 ?_
    refine v_iconst (v := 1) C dX8_enters_70 (by decide) ?_
    refine v_isub C dX8_enters_71 ?_
    refine v_put C iX8_enters_X8 tyX8 tyX8_ok nmX8 k_30 rfl rfl (j := 34) rfl (by decide) rfl (C.w 1 rfl) rfl rfl rfl dX8_enters_72 ?_
    refine v_aload_n C dX8_enters_75 rfl (lv_at hl 0 rfl) ?_
    refine v_getR C iX8_enters_X8 k_30 rfl rfl (j := 35) rfl (by decide) rfl (C.w 2 rfl) dX8_enters_76 ?_
    refine v_aload_n C dX8_enters_79 rfl (lv_at hl 0 rfl) ?_
    refine v_getI C iX8_enters_X8 k_30 rfl rfl (j := 34) rfl (by decide) rfl (C.w 1 rfl) dX8_enters_80 ?_
    refine v_aload_n C dX8_enters_83 rfl (lv_at hl 0 rfl) ?_
    refine v_getI C iX8_enters_X8 k_30 rfl rfl (j := 0) rfl (by decide) rfl (C.w 5 rfl) dX8_enters_84 ?_
    refine v_iast C k_63 rfl (ent_in c_1) dX8_enters_87 ?_
    refine v_aload_n C dX8_enters_88 rfl (lv_at hl 0 rfl) ?_
    refine v_getR C iX8_enters_X8 k_30 rfl rfl (j := 36) rfl (by decide) rfl (C.w 3 rfl) dX8_enters_89 ?_
    refine v_aload_n C dX8_enters_92 rfl (lv_at hl 0 rfl) ?_
    refine v_getI C iX8_enters_X8 k_30 rfl rfl (j := 34) rfl (by decide) rfl (C.w 1 rfl) dX8_enters_93 ?_
    refine v_iload_n C dX8_enters_96 rfl (lv_at hl 1 rfl) ?_
    refine v_iast C k_64 rfl (ent_in c_1) dX8_enters_97 ?_
    refine v_aload_n C dX8_enters_98 rfl (lv_at hl 0 rfl) ?_
    refine v_getR C iX8_enters_X8 k_30 rfl rfl (j := 37) rfl (by decide) rfl (C.w 4 rfl) dX8_enters_99 ?_
    refine v_aload_n C dX8_enters_102 rfl (lv_at hl 0 rfl) ?_
    refine v_getI C iX8_enters_X8 k_30 rfl rfl (j := 34) rfl (by decide) rfl (C.w 1 rfl) dX8_enters_103 ?_
    refine v_aload_n C dX8_enters_106 rfl (lv_at hl 0 rfl) ?_
    refine v_getR C iX8_enters_X8 k_30 rfl rfl (j := 33) rfl (by decide) rfl (C.w 6 rfl) dX8_enters_107 ?_
    refine v_iload_n C dX8_enters_110 rfl (lv_at hl 1 rfl) ?_
    refine v_iald C k_62 rfl h1 dX8_enters_111 ?_
    refine v_iast C k_65 rfl (ent_in c_1) dX8_enters_112 ?_
    refine v_aload_n C dX8_enters_113 rfl (lv_at hl 0 rfl) ?_
    refine v_dup C dX8_enters_114 rfl ?_
    refine v_getI C iX8_enters_X8 k_30 rfl rfl (j := 34) rfl (by decide) rfl (C.w 1 rfl) dX8_enters_115 ?_
    refine v_iconst (v := 1) C dX8_enters_118 (by decide) ?_
    refine v_iadd C dX8_enters_119 ?_
    refine v_put C iX8_enters_X8 tyX8 tyX8_ok nmX8 k_30 rfl rfl (j := 34) rfl (by decide) rfl (C.w 1 rfl) rfl rfl rfl dX8_enters_120 ?_
    exact hret _ _ _ (Eq.symm ((if_pos c_1).trans rfl)) dX8_enters_123
theorem X8_enters_s_fr (a1 : Int32) (t : ct_St) {r : Nat} (h30 : r ≠ 30) (h63 : r ≠ 63) (h64 : r ≠ 64) (h65 : r ≠ 65) : X8_enters_s a1 t r = t r := by
  dsimp only [X8_enters_s]
  (repeat' split) <;> simp only [us_ne, h30, h63, h64, h65, ne_eq, not_false_eq_true, X8_enters_it_fr]
theorem iX8_pins_X8 : ∀ w ∈ wsX80, w ∈ wsX8_pins := fun _ h => (List.mem_cons_of_mem _ (List.mem_append_right _ h))
theorem hv_X8_pins : yX8_pins.cls = RX8 ∧ yX8_pins.cls ≠ "java/lang/invoke/MethodHandle" ∧ yX8_pins.cls ≠ "java/lang/invoke/VarHandle" ∧ (parseMethodDescriptor yX8_pins.desc).map (fun d => d.parameters.length) = some 0 := by decide +kernel
def X8_pins_it (x : Int32) (t : ct_St) : ct_St :=
  let x1 := X8_pinThen_r (x / 2) (x - x / 2 * 2) t
  if x1 = t 62 (ix x) then
    t
  else
    let t2 := us t 62 (ix x) x1
    let t3 := X8_enters_s x t2
    t3
theorem X8_pins_it_fr (x : Int32) (t : ct_St) {r : Nat} (h30 : r ≠ 30) (h62 : r ≠ 62) (h63 : r ≠ 63) (h64 : r ≠ 64) (h65 : r ≠ 65) : X8_pins_it x t r = t r := by
  dsimp only [X8_pins_it]
  (repeat' split) <;> simp only [us_ne, h30, h62, h63, h64, h65, ne_eq, not_false_eq_true, X8_enters_s_fr]
theorem en30 (a1 : Int32) (t : ct_St) (he : vp_in (t 30 34) 25) : vp_in (X8_enters_s a1 t 30 34) 25 := by
  dsimp only [X8_enters_s]
  split
  · next h => exact ent_up (ent_in h)
  · next h => exact ent_up (ent_in2 he h)
theorem en30b (a1 : Int32) (t : ct_St) {k : Nat} (hk : k ≠ 34) : X8_enters_s a1 t 30 k = t 30 k := by
  dsimp only [X8_enters_s]
  split
  · rw [us_off hk, us_ne (by decide), us_ne (by decide), us_ne (by decide), us_off hk]
    rfl
  · rw [us_off hk]
    rfl
theorem ok_X8_enters_s (a1 : Int32) (t : ct_St) (h : okM t) : okM (X8_enters_s a1 t) := by
  unfold okM
  rw [X8_enters_s_fr a1 t (by decide) (by decide) (by decide) (by decide), X8_enters_s_fr a1 t (by decide) (by decide) (by decide) (by decide), X8_enters_s_fr a1 t (by decide) (by decide) (by decide) (by decide), X8_enters_s_fr a1 t (by decide) (by decide) (by decide) (by decide), X8_enters_s_fr a1 t (by decide) (by decide) (by decide) (by decide), en30b a1 t (by decide), en30b a1 t (by decide)]
  exact ⟨h.1, h.2.1, h.2.2.1, h.2.2.2.1, h.2.2.2.2.1, h.2.2.2.2.2.1, h.2.2.2.2.2.2.1, en30 a1 t h.2.2.2.2.2.2.2⟩
theorem ok_X8_pins_it (x : Int32) (t : ct_St) (h : okM t) : okM (X8_pins_it x t) := by
  dsimp only [X8_pins_it]
  split
  · exact h
  · exact ok_X8_enters_s _ _ (okM_ne h (by decide) (by decide) (by decide) (by decide) (by decide) (by decide))
set_option maxHeartbeats 4000000 in
set_option maxRecDepth 100000 in
theorem cb_X8_pins {p : Program} {e : Env} {s : State} {m : MethodId} {args : Array Value} {below : List Frame} {meth : Method} {cd : Code} {A : Nat → Prop} {Q : State → Prop} (l : Launch) (g : ct_G) (C : Cx p s m args cd A g cX8_pins RX8 wsX8_pins 3) (t : ct_St) (x : Int32) (hx : vp_in x 8) (h2 : vp_in (x / 2) 4) (hc : okM t) (K : ∀ (ls : Array Slot) (x1 : Int32), x1 = x + 1 → lv_has ls 3 [(0, .ref (g.2.1 30)), (1, .int x1)] → VW p l e (rmd 2) s m args below meth cd 0 0 Q A g shG (X8_pins_it x t) (F0 m 2 ls [])) (ls : Array Slot) (hl : lv_has ls 3 [(0, .ref (g.2.1 30)), (1, .int x)]) : VW p l e (rmd 2) s m args below meth cd 0 0 Q A g shG t (F0 m 2 ls []) := by
  refine v_iload_n C dX8_pins_2 rfl (lv_at hl 1 rfl) ?_
  refine v_bipush (v := 8) C dX8_pins_3 (by decide) ?_
  refine v_icmp_ge (tgt := 47) C dX8_pins_5 (by decide) (fun h => absurd h ((vp_nle hx (by decide)))) (fun _ => ?_)
  refine v_aload_n C dX8_pins_8 rfl (lv_at hl 0 rfl) ?_
  refine v_iload_n C dX8_pins_9 rfl (lv_at hl 1 rfl) ?_
  refine v_iconst (v := 2) C dX8_pins_10 (by decide) ?_
  refine v_idiv C dX8_pins_11 (by decide) ?_
  refine v_iload_n C dX8_pins_12 rfl (lv_at hl 1 rfl) ?_
  refine v_iconst (v := 2) C dX8_pins_13 (by decide) ?_
  refine v_irem C dX8_pins_14 (by decide) ?_
  refine v_calli C (c_X8_pinThen l g _ _ _ h2) (cwV 2 C.2.2.2.2.1 gX8_pins_X8_pinThen rfl rfl rfl hv_X8_pinThen ⟨Nat.le_of_ble_eq_true rfl, Nat.le_of_ble_eq_true rfl⟩) k_30 rfl rfl rfl rfl hl.1 rfl (Nat.le_of_ble_eq_true rfl) dX8_pins_15 ⟨Nat.le_refl _, Nat.le_refl _⟩ ?_
  refine v_istore_n (lv' := [(2, _), (0, _), (1, _)]) C dX8_pins_18 rfl hl (by decide) rfl (fun ls hl => ?_)
  refine v_iload_n C dX8_pins_19 rfl (lv_at hl 0 rfl) ?_
  refine v_aload_n C dX8_pins_20 rfl (lv_at hl 1 rfl) ?_
  refine v_getR C iX8_pins_X8 k_30 rfl rfl (j := 33) rfl (by decide) rfl (C.w 1 rfl) dX8_pins_21 ?_
  refine v_iload_n C dX8_pins_24 rfl (lv_at hl 2 rfl) ?_
  refine v_iald C k_62 rfl hx dX8_pins_25 ?_
  refine v_icmp_eq (tgt := 41) C dX8_pins_26 (by decide) (fun c_2 => ?_) (fun c_2 => ?_)
  · refine v_iinc (k0 := 2) (v := _ + 1) (lv' := [(1, _), (2, _), (0, _)]) C dX8_pins_41 hl rfl rfl (by decide) rfl (fun ls hl => ?_)
    refine v_goto (tgt := 2) C dX8_pins_44 (by decide) ?_
    exact VW.st (Eq.symm ((if_pos c_2).trans rfl)) (K ls _ rfl (lv_sub hl [2, 0] rfl))
  · refine v_aload_n C dX8_pins_29 rfl (lv_at hl 1 rfl) ?_
    refine v_getR C iX8_pins_X8 k_30 rfl rfl (j := 33) rfl (by decide) rfl (C.w 1 rfl) dX8_pins_30 ?_
    refine v_iload_n C dX8_pins_33 rfl (lv_at hl 2 rfl) ?_
    refine v_iload_n C dX8_pins_34 rfl (lv_at hl 0 rfl) ?_
    refine v_iast C k_62 rfl hx dX8_pins_35 ?_
    refine v_aload_n C dX8_pins_36 rfl (lv_at hl 1 rfl) ?_
    refine v_iload_n C dX8_pins_37 rfl (lv_at hl 2 rfl) ?_
    refine v_callv C (c_X8_enters l g _ _ hx hc.2.2.2.2.2.2.2) (cwV 1 C.2.2.2.2.1 gX8_pins_X8_enters rfl rfl rfl hv_X8_enters ⟨Nat.le_of_ble_eq_true rfl, Nat.le_of_ble_eq_true rfl⟩) k_30 rfl rfl rfl rfl hl.1 rfl (Nat.le_of_ble_eq_true rfl) dX8_pins_38 ⟨Nat.le_refl _, Nat.le_refl _⟩ ?_
    refine v_iinc (k0 := 2) (v := _ + 1) (lv' := [(1, _), (2, _), (0, _)]) C dX8_pins_41 hl rfl rfl (by decide) rfl (fun ls hl => ?_)
    refine v_goto (tgt := 2) C dX8_pins_44 (by decide) ?_
    exact VW.st (Eq.symm ((if_neg c_2).trans rfl)) (K ls _ rfl (lv_sub hl [2, 0] rfl))
def X8_pins_s (t : ct_St) : ct_St :=
  let t1 := X8_pins_it 0 t
  let t2 := X8_pins_it 1 t1
  let t3 := X8_pins_it 2 t2
  let t4 := X8_pins_it 3 t3
  let t5 := X8_pins_it 4 t4
  let t6 := X8_pins_it 5 t5
  let t7 := X8_pins_it 6 t6
  let t8 := X8_pins_it 7 t7
  t8
set_option maxHeartbeats 4000000 in
set_option maxRecDepth 100000 in
theorem c_X8_pins (l : Launch) (g : ct_G) (t : ct_St) (hc : okM t) : MV l g shG yX8_pins wsX8_pins (rmd 2) [.ref (g.2.1 30)] t (X8_pins_s t) := by
  refine MV.of (own := RX8) (cc := cX8_pins) (maxL := 3) rfl (by decide) rfl (Nat.le_of_ble_eq_true rfl) (fun p e s m args below meth cd A Q C hret ls hl => ?_)
  have hl : lv_has ls 3 [(0, .ref (g.2.1 30))] := hl
  refine v_iconst (v := 0) C dX8_pins_0 (by decide) ?_
  refine v_istore_n (lv' := [(1, _), (0, _)]) C dX8_pins_1 rfl hl (by decide) rfl (fun ls hl => ?_)
  refine cb_X8_pins l g C _ 0 vl_0_8 (by unfold vp_in; decide) hc (fun ls x1 hx1 hl => ?_) ls (lv_sub hl [1, 0] rfl)
  obtain rfl : x1 = 1 := hx1.trans (by decide)
  refine cb_X8_pins l g C _ 1 vl_1_8 (by unfold vp_in; decide) (ok_X8_pins_it _ _ hc) (fun ls x1 hx1 hl => ?_) ls (lv_sub hl [0, 1] rfl)
  obtain rfl : x1 = 2 := hx1.trans (by decide)
  refine cb_X8_pins l g C _ 2 vl_2_8 (by unfold vp_in; decide) (ok_X8_pins_it _ _ (ok_X8_pins_it _ _ hc)) (fun ls x1 hx1 hl => ?_) ls (lv_sub hl [0, 1] rfl)
  obtain rfl : x1 = 3 := hx1.trans (by decide)
  refine cb_X8_pins l g C _ 3 vl_3_8 (by unfold vp_in; decide) (ok_X8_pins_it _ _ (ok_X8_pins_it _ _ (ok_X8_pins_it _ _ hc))) (fun ls x1 hx1 hl => ?_) ls (lv_sub hl [0, 1] rfl)
  obtain rfl : x1 = 4 := hx1.trans (by decide)
  refine cb_X8_pins l g C _ 4 vl_4_8 (by unfold vp_in; decide) (ok_X8_pins_it _ _ (ok_X8_pins_it _ _ (ok_X8_pins_it _ _ (ok_X8_pins_it _ _ hc)))) (fun ls x1 hx1 hl => ?_) ls (lv_sub hl [0, 1] rfl)
  obtain rfl : x1 = 5 := hx1.trans (by decide)
  refine cb_X8_pins l g C _ 5 vl_5_8 (by unfold vp_in; decide) (ok_X8_pins_it _ _ (ok_X8_pins_it _ _ (ok_X8_pins_it _ _ (ok_X8_pins_it _ _ (ok_X8_pins_it _ _ hc))))) (fun ls x1 hx1 hl => ?_) ls (lv_sub hl [0, 1] rfl)
  obtain rfl : x1 = 6 := hx1.trans (by decide)
  refine cb_X8_pins l g C _ 6 vl_6_8 (by unfold vp_in; decide) (ok_X8_pins_it _ _ (ok_X8_pins_it _ _ (ok_X8_pins_it _ _ (ok_X8_pins_it _ _ (ok_X8_pins_it _ _ (ok_X8_pins_it _ _ hc)))))) (fun ls x1 hx1 hl => ?_) ls (lv_sub hl [0, 1] rfl)
  obtain rfl : x1 = 7 := hx1.trans (by decide)
  refine cb_X8_pins l g C _ 7 vl_7_8 (by unfold vp_in; decide) (ok_X8_pins_it _ _ (ok_X8_pins_it _ _ (ok_X8_pins_it _ _ (ok_X8_pins_it _ _ (ok_X8_pins_it _ _ (ok_X8_pins_it _ _ (ok_X8_pins_it _ _ hc))))))) (fun ls x1 hx1 hl => ?_) ls (lv_sub hl [0, 1] rfl)
  obtain rfl : x1 = 8 := hx1.trans (by decide)
  refine v_iload_n C dX8_pins_2 rfl (lv_at hl 1 rfl) ?_
  refine v_bipush (v := 8) C dX8_pins_3 (by decide) ?_
  refine v_icmp_ge (tgt := 47) C dX8_pins_5 (by decide) (fun _ => ?_) (fun h => absurd h (by decide))
  exact hret _ _ _ rfl dX8_pins_47
theorem ok_X8_pins_s (t : ct_St) (h : okM t) : okM (X8_pins_s t) := ok_X8_pins_it _ _ (ok_X8_pins_it _ _ (ok_X8_pins_it _ _ (ok_X8_pins_it _ _ (ok_X8_pins_it _ _ (ok_X8_pins_it _ _ (ok_X8_pins_it _ _ (ok_X8_pins_it _ _ h)))))))
theorem X8_pins_s_fr (t : ct_St) {r : Nat} (h30 : r ≠ 30) (h62 : r ≠ 62) (h63 : r ≠ 63) (h64 : r ≠ 64) (h65 : r ≠ 65) : X8_pins_s t r = t r := by
  dsimp only [X8_pins_s]
  (repeat' split) <;> simp only [us_ne, h30, h62, h63, h64, h65, ne_eq, not_false_eq_true, X8_pins_it_fr]
end
