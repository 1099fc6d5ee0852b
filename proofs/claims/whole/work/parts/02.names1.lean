/-! ===== BEGIN words of one list among another's, by their places ===== -/
theorem goodIn_r {big : List Cond} (ws : List Cond) (ps : List Nat) (hp : ws = ps.filterMap (fun i => big[i]?)) (h : ws.all goodWord = true) : GoodIn big ws := by
  intro w hw
  have h1 := List.all_eq_true.mp h w hw
  rw [hp] at hw
  obtain ⟨i, -, hi⟩ := List.mem_filterMap.mp hw
  have hm : w ∈ big := by first | exact List.mem_of_getElem? hi | exact List.getElem?_mem hi
  exact ⟨hm, good_of_word h1⟩
theorem goodIn_app {big a b : List Cond} (ha : GoodIn big a) (hb : GoodIn big b) : GoodIn big (a ++ b) := fun w h => (List.mem_append.mp h).elim (ha w) (hb w)
theorem goodIn_ca {big a b : List Cond} {c : Cond} (ha : GoodIn big (c :: a)) (hb : GoodIn big b) : GoodIn big (c :: (a ++ b)) := fun w h => (List.mem_cons.mp h).elim (fun e => ha w (List.mem_cons.mpr (Or.inl e))) (fun h => (List.mem_append.mp h).elim (fun h => ha w (List.mem_cons.mpr (Or.inr h))) (hb w))
theorem goodIn_sub {big ws : List Cond} (hm : ∀ w ∈ ws, w ∈ big) (h : ws.all goodWord = true) : GoodIn big ws := fun w hw => ⟨hm w hw, good_of_word (List.all_eq_true.mp h w hw)⟩
/-! ===== END ===== -/

/-! ===== BEGIN printed: names, fields, word lists, decode rows ===== -/
def RX0 : String := "CaseLine$Codes"
def TX0 : u_T := fun k => match k with
  | 0 => ("CaseLine$Codes", "count", "I", false)
  | 1 => ("CaseLine$Codes", "boxOf", "[I", true)
  | 2 => ("CaseLine$Codes", "lotOf", "[I", true)
  | 3 => ("CaseLine$Codes", "weightOf", "[I", true)
  | 4 => ("CaseLine$Codes", "unitsIn", "[I", true)
  | 5 => ("CaseLine$Codes", "boxClosed", "[Z", true)
  | 6 => ("CaseLine$Codes", "palletOf", "[I", true)
  | 7 => ("CaseLine$Codes", "boxesOn", "[I", true)
  | _ => ("CaseLine$Codes", "palletClosed", "[Z", true)
def tyX0 : Nat → FieldType := fun k => match k with
  | 0 => .int
  | 1 => .array .int
  | 2 => .array .int
  | 3 => .array .int
  | 4 => .array .int
  | 5 => .array .boolean
  | 6 => .array .int
  | 7 => .array .int
  | _ => .array .boolean
abbrev wsX00 : List Cond := u_ws RX0 TX0 9
theorem nmX0 : ∀ a, a < 9 → ∀ b, b < 9 → a ≠ b → (TX0 a).2.1 ≠ (TX0 b).2.1 := by decide +kernel
theorem tyX0_ok : ∀ k, k < 9 → parseFieldDescriptor (TX0 k).2.2.1 = some (tyX0 k) := by decide +kernel
abbrev cX0_init : ByteArray := prog_2_method_1_code
def yX0_init : MethodName := ⟨RX0, "<init>", "()V"⟩
abbrev cX0_add : ByteArray := prog_2_method_2_code
def yX0_add : MethodName := ⟨RX0, "add", "(I)V"⟩
abbrev cX0_known : ByteArray := prog_2_method_3_code
def yX0_known : MethodName := ⟨RX0, "known", "(I)Z"⟩
abbrev cX0_packInto : ByteArray := prog_2_method_4_code
def yX0_packInto : MethodName := ⟨RX0, "packInto", "(III)I"⟩
abbrev cX0_closeBox : ByteArray := prog_2_method_5_code
def yX0_closeBox : MethodName := ⟨RX0, "closeBox", "(II)I"⟩
abbrev cX0_closeWithLost : ByteArray := prog_2_method_6_code
def yX0_closeWithLost : MethodName := ⟨RX0, "closeWithLost", "(II)I"⟩
abbrev cX0_onlyLooseIn : ByteArray := prog_2_method_7_code
def yX0_onlyLooseIn : MethodName := ⟨RX0, "onlyLooseIn", "(II)I"⟩
abbrev cX0_stackOn : ByteArray := prog_2_method_8_code
def yX0_stackOn : MethodName := ⟨RX0, "stackOn", "(III)I"⟩
abbrev cX0_sealPallet : ByteArray := prog_2_method_9_code
def yX0_sealPallet : MethodName := ⟨RX0, "sealPallet", "(I)I"⟩
abbrev cX0_breakBox : ByteArray := prog_2_method_10_code
def yX0_breakBox : MethodName := ⟨RX0, "breakBox", "(I)I"⟩
abbrev cX0_breakPallet : ByteArray := prog_2_method_11_code
def yX0_breakPallet : MethodName := ⟨RX0, "breakPallet", "(I)I"⟩
abbrev cX0_fullestCase : ByteArray := prog_2_method_12_code
def yX0_fullestCase : MethodName := ⟨RX0, "fullestCase", "()I"⟩
abbrev cX0_fullestPallet : ByteArray := prog_2_method_13_code
def yX0_fullestPallet : MethodName := ⟨RX0, "fullestPallet", "()I"⟩
abbrev cX0_palletOfCode : ByteArray := prog_2_method_14_code
def yX0_palletOfCode : MethodName := ⟨RX0, "palletOfCode", "(I)I"⟩
abbrev cX0_leastIn : ByteArray := prog_2_method_15_code
def yX0_leastIn : MethodName := ⟨RX0, "leastIn", "(I)I"⟩
abbrev cX0_greatestIn : ByteArray := prog_2_method_16_code
def yX0_greatestIn : MethodName := ⟨RX0, "greatestIn", "(I)I"⟩
abbrev cX0_boxesWith : ByteArray := prog_2_method_17_code
def yX0_boxesWith : MethodName := ⟨RX0, "boxesWith", "(I)I"⟩
abbrev cX0_palletsWith : ByteArray := prog_2_method_18_code
def yX0_palletsWith : MethodName := ⟨RX0, "palletsWith", "(I)I"⟩
abbrev cX0_looseOf : ByteArray := prog_2_method_19_code
def yX0_looseOf : MethodName := ⟨RX0, "looseOf", "(I)I"⟩
abbrev cX0_putWeight : ByteArray := prog_2_method_20_code
def yX0_putWeight : MethodName := ⟨RX0, "putWeight", "(II)I"⟩
abbrev cX0_givenAway : ByteArray := prog_2_method_21_code
def yX0_givenAway : MethodName := ⟨RX0, "givenAway", "(I)I"⟩
abbrev cX0_lighterThan : ByteArray := prog_2_method_22_code
def yX0_lighterThan : MethodName := ⟨RX0, "lighterThan", "(I)I"⟩
abbrev cX0_weighed : ByteArray := prog_2_method_23_code
def yX0_weighed : MethodName := ⟨RX0, "weighed", "()I"⟩
def RX1 : String := "CaseLine$Conveyor"
def TX1 : u_T := fun k => match k with
  | 0 => ("CaseLine$Conveyor", "machines", "[LCaseLine$Machine;", true)
  | 1 => ("CaseLine$Conveyor", "count", "I", false)
  | 2 => ("CaseLine$Conveyor", "faults", "LCaseLine$Faults;", true)
  | 3 => ("CaseLine$Conveyor", "laidOn", "[I", true)
  | 4 => ("CaseLine$Conveyor", "ticksDone", "I", false)
  | 5 => ("CaseLine$Conveyor", "inSupply", "I", false)
  | 6 => ("CaseLine$Conveyor", "taken", "I", false)
  | 7 => ("CaseLine$Conveyor", "good", "I", false)
  | _ => ("CaseLine$Conveyor", "stopped", "I", false)
def tyX1 : Nat → FieldType := fun k => match k with
  | 0 => .array (.object "CaseLine$Machine")
  | 1 => .int
  | 2 => .object "CaseLine$Faults"
  | 3 => .array .int
  | 4 => .int
  | 5 => .int
  | 6 => .int
  | 7 => .int
  | _ => .int
abbrev wsX10 : List Cond := u_ws RX1 TX1 9
theorem nmX1 : ∀ a, a < 9 → ∀ b, b < 9 → a ≠ b → (TX1 a).2.1 ≠ (TX1 b).2.1 := by decide +kernel
theorem tyX1_ok : ∀ k, k < 9 → parseFieldDescriptor (TX1 k).2.2.1 = some (tyX1 k) := by decide +kernel
abbrev cX1_init : ByteArray := prog_3_method_1_code
def yX1_init : MethodName := ⟨RX1, "<init>", "()V"⟩
abbrev cX1_renew : ByteArray := prog_3_method_2_code
def yX1_renew : MethodName := ⟨RX1, "renew", "(I)V"⟩
abbrev cX1_machineAt : ByteArray := prog_3_method_3_code
def yX1_machineAt : MethodName := ⟨RX1, "machineAt", "(I)LCaseLine$Machine;"⟩
abbrev cX1_isLast : ByteArray := prog_3_method_4_code
def yX1_isLast : MethodName := ⟨RX1, "isLast", "(LCaseLine$Machine;)Z"⟩
abbrev cX1_last : ByteArray := prog_3_method_5_code
def yX1_last : MethodName := ⟨RX1, "last", "()LCaseLine$Machine;"⟩
abbrev cX1_step : ByteArray := prog_3_method_6_code
def yX1_step : MethodName := ⟨RX1, "step", "()Z"⟩
abbrev cX1_stepOf : ByteArray := prog_3_method_7_code
def yX1_stepOf : MethodName := ⟨RX1, "stepOf", "(LCaseLine$Machine;)I"⟩
abbrev cX1_takeFor : ByteArray := prog_3_method_8_code
def yX1_takeFor : MethodName := ⟨RX1, "takeFor", "(LCaseLine$Machine;)Z"⟩
abbrev cX1_finishAt : ByteArray := prog_3_method_9_code
def yX1_finishAt : MethodName := ⟨RX1, "finishAt", "(LCaseLine$Machine;)V"⟩
abbrev cX1_layOnCause : ByteArray := prog_3_method_10_code
def yX1_layOnCause : MethodName := ⟨RX1, "layOnCause", "()V"⟩
abbrev cX1_allRejected : ByteArray := prog_3_method_11_code
def yX1_allRejected : MethodName := ⟨RX1, "allRejected", "()I"⟩
abbrev cX1_allSampled : ByteArray := prog_3_method_12_code
def yX1_allSampled : MethodName := ⟨RX1, "allSampled", "()I"⟩
abbrev cX1_allOnLine : ByteArray := prog_3_method_13_code
def yX1_allOnLine : MethodName := ⟨RX1, "allOnLine", "()I"⟩
def RX2 : String := "CaseLine$Faults"
def TX2 : u_T := fun k => match k with
  | 0 => ("CaseLine$Faults", "machineOf", "[I", true)
  | 1 => ("CaseLine$Faults", "firstTick", "[I", true)
  | 2 => ("CaseLine$Faults", "lastTick", "[I", true)
  | _ => ("CaseLine$Faults", "count", "I", false)
def tyX2 : Nat → FieldType := fun k => match k with
  | 0 => .array .int
  | 1 => .array .int
  | 2 => .array .int
  | _ => .int
abbrev wsX20 : List Cond := u_ws RX2 TX2 4
theorem nmX2 : ∀ a, a < 4 → ∀ b, b < 4 → a ≠ b → (TX2 a).2.1 ≠ (TX2 b).2.1 := by decide +kernel
theorem tyX2_ok : ∀ k, k < 4 → parseFieldDescriptor (TX2 k).2.2.1 = some (tyX2 k) := by decide +kernel
abbrev cX2_init : ByteArray := prog_4_method_1_code
def yX2_init : MethodName := ⟨RX2, "<init>", "()V"⟩
abbrev cX2_clear : ByteArray := prog_4_method_2_code
def yX2_clear : MethodName := ⟨RX2, "clear", "()V"⟩
abbrev cX2_add : ByteArray := prog_4_method_3_code
def yX2_add : MethodName := ⟨RX2, "add", "(III)I"⟩
abbrev cX2_stop : ByteArray := prog_4_method_4_code
def yX2_stop : MethodName := ⟨RX2, "stop", "(II)Z"⟩
def RX3 : String := "CaseLine$Machine"
def TX3 : u_T := fun k => match k with
  | 0 => ("CaseLine$Machine", "number", "I", true)
  | 1 => ("CaseLine$Machine", "ahead", "LCaseLine$Machine;", true)
  | 2 => ("CaseLine$Machine", "setting", "[I", true)
  | 3 => ("CaseLine$Machine", "inGap", "I", false)
  | 4 => ("CaseLine$Machine", "working", "Z", false)
  | 5 => ("CaseLine$Machine", "holding", "Z", false)
  | 6 => ("CaseLine$Machine", "ticksOnUnit", "I", false)
  | 7 => ("CaseLine$Machine", "finished", "I", false)
  | 8 => ("CaseLine$Machine", "rejected", "I", false)
  | 9 => ("CaseLine$Machine", "sampled", "I", false)
  | 10 => ("CaseLine$Machine", "unconfirmed", "I", false)
  | 11 => ("CaseLine$Machine", "oldestReject", "I", false)
  | 12 => ("CaseLine$Machine", "state", "I", false)
  | _ => ("CaseLine$Machine", "ran", "I", false)
def tyX3 : Nat → FieldType := fun k => match k with
  | 0 => .int
  | 1 => .object "CaseLine$Machine"
  | 2 => .array .int
  | 3 => .int
  | 4 => .boolean
  | 5 => .boolean
  | 6 => .int
  | 7 => .int
  | 8 => .int
  | 9 => .int
  | 10 => .int
  | 11 => .int
  | 12 => .int
  | _ => .int
abbrev wsX30 : List Cond := u_ws RX3 TX3 14
theorem nmX3 : ∀ a, a < 14 → ∀ b, b < 14 → a ≠ b → (TX3 a).2.1 ≠ (TX3 b).2.1 := by decide +kernel
theorem tyX3_ok : ∀ k, k < 14 → parseFieldDescriptor (TX3 k).2.2.1 = some (tyX3 k) := by decide +kernel
abbrev cX3_init : ByteArray := prog_5_method_1_code
def yX3_init : MethodName := ⟨RX3, "<init>", "(ILCaseLine$Machine;)V"⟩
abbrev cX3_renew : ByteArray := prog_5_method_2_code
def yX3_renew : MethodName := ⟨RX3, "renew", "()V"⟩
abbrev cX3_mayBeSet : ByteArray := prog_5_method_3_code
def yX3_mayBeSet : MethodName := ⟨RX3, "mayBeSet", "(II)Z"⟩
abbrev cX3_put : ByteArray := prog_5_method_4_code
def yX3_put : MethodName := ⟨RX3, "put", "(II)I"⟩
abbrev cX3_unitsInside : ByteArray := prog_5_method_5_code
def yX3_unitsInside : MethodName := ⟨RX3, "unitsInside", "()I"⟩
abbrev cX3_waitsForWord : ByteArray := prog_5_method_6_code
def yX3_waitsForWord : MethodName := ⟨RX3, "waitsForWord", "(I)Z"⟩
abbrev cX3_giveOn : ByteArray := prog_5_method_7_code
def yX3_giveOn : MethodName := ⟨RX3, "giveOn", "()Z"⟩
abbrev cX3_unitIsFinished : ByteArray := prog_5_method_8_code
def yX3_unitIsFinished : MethodName := ⟨RX3, "unitIsFinished", "()Z"⟩
abbrev cX3_passes : ByteArray := prog_5_method_9_code
def yX3_passes : MethodName := ⟨RX3, "passes", "(I)Z"⟩
abbrev cX3_isEach : ByteArray := prog_5_method_10_code
def yX3_isEach : MethodName := ⟨RX3, "isEach", "(I)Z"⟩
abbrev cX3_reject : ByteArray := prog_5_method_11_code
def yX3_reject : MethodName := ⟨RX3, "reject", "(I)V"⟩
def RX4 : String := "CaseLine$Plan"
def TX4 : u_T := fun k => match k with
  | 0 => ("CaseLine$Plan", "made", "Z", false)
  | 1 => ("CaseLine$Plan", "x", "I", false)
  | 2 => ("CaseLine$Plan", "y", "I", false)
  | 3 => ("CaseLine$Plan", "a", "I", false)
  | 4 => ("CaseLine$Plan", "b", "I", false)
  | 5 => ("CaseLine$Plan", "narrow", "I", false)
  | 6 => ("CaseLine$Plan", "most", "[I", true)
  | 7 => ("CaseLine$Plan", "place", "[I", true)
  | 8 => ("CaseLine$Plan", "places", "I", false)
  | 9 => ("CaseLine$Plan", "part", "[I", true)
  | 10 => ("CaseLine$Plan", "parts", "I", false)
  | _ => ("CaseLine$Plan", "owner", "[I", true)
def tyX4 : Nat → FieldType := fun k => match k with
  | 0 => .boolean
  | 1 => .int
  | 2 => .int
  | 3 => .int
  | 4 => .int
  | 5 => .int
  | 6 => .array .int
  | 7 => .array .int
  | 8 => .int
  | 9 => .array .int
  | 10 => .int
  | _ => .array .int
abbrev wsX40 : List Cond := u_ws RX4 TX4 12
theorem nmX4 : ∀ a, a < 12 → ∀ b, b < 12 → a ≠ b → (TX4 a).2.1 ≠ (TX4 b).2.1 := by decide +kernel
theorem tyX4_ok : ∀ k, k < 12 → parseFieldDescriptor (TX4 k).2.2.1 = some (tyX4 k) := by decide +kernel
abbrev cX4_init : ByteArray := prog_6_method_1_code
def yX4_init : MethodName := ⟨RX4, "<init>", "()V"⟩
abbrev cX4_make : ByteArray := prog_6_method_2_code
def yX4_make : MethodName := ⟨RX4, "make", "(IIII)I"⟩
abbrev cX4_numberOf : ByteArray := prog_6_method_3_code
def yX4_numberOf : MethodName := ⟨RX4, "numberOf", "(II)I"⟩
abbrev cX4_findMost : ByteArray := prog_6_method_4_code
def yX4_findMost : MethodName := ⟨RX4, "findMost", "()V"⟩
abbrev cX4_mostOf : ByteArray := prog_6_method_5_code
def yX4_mostOf : MethodName := ⟨RX4, "mostOf", "(II)I"⟩
abbrev cX4_mostIn : ByteArray := prog_6_method_6_code
def yX4_mostIn : MethodName := ⟨RX4, "mostIn", "(II)I"⟩
abbrev cX4_fits : ByteArray := prog_6_method_7_code
def yX4_fits : MethodName := ⟨RX4, "fits", "(IIII)Z"⟩
abbrev cX4_byUprightCut : ByteArray := prog_6_method_8_code
def yX4_byUprightCut : MethodName := ⟨RX4, "byUprightCut", "(III)I"⟩
abbrev cX4_byLevelCut : ByteArray := prog_6_method_9_code
def yX4_byLevelCut : MethodName := ⟨RX4, "byLevelCut", "(III)I"⟩
abbrev cX4_byPinwheel : ByteArray := prog_6_method_10_code
def yX4_byPinwheel : MethodName := ⟨RX4, "byPinwheel", "(IIIIII)I"⟩
abbrev cX4_mostByPinwheel : ByteArray := prog_6_method_11_code
def yX4_mostByPinwheel : MethodName := ⟨RX4, "mostByPinwheel", "(II)I"⟩
abbrev cX4_layCases : ByteArray := prog_6_method_12_code
def yX4_layCases : MethodName := ⟨RX4, "layCases", "()V"⟩
abbrev cX4_putPart : ByteArray := prog_6_method_13_code
def yX4_putPart : MethodName := ⟨RX4, "putPart", "(IIII)V"⟩
abbrev cX4_layPart : ByteArray := prog_6_method_14_code
def yX4_layPart : MethodName := ⟨RX4, "layPart", "(IIII)V"⟩
abbrev cX4_layCase : ByteArray := prog_6_method_15_code
def yX4_layCase : MethodName := ⟨RX4, "layCase", "(IIZ)V"⟩
abbrev cX4_cutUpright : ByteArray := prog_6_method_16_code
def yX4_cutUpright : MethodName := ⟨RX4, "cutUpright", "(IIII)Z"⟩
abbrev cX4_cutLevel : ByteArray := prog_6_method_17_code
def yX4_cutLevel : MethodName := ⟨RX4, "cutLevel", "(IIII)Z"⟩
abbrev cX4_cutPinwheel : ByteArray := prog_6_method_18_code
def yX4_cutPinwheel : MethodName := ⟨RX4, "cutPinwheel", "(IIII)V"⟩
abbrev cX4_holding : ByteArray := prog_6_method_19_code
def yX4_holding : MethodName := ⟨RX4, "holding", "()I"⟩
abbrev cX4_markOwners : ByteArray := prog_6_method_20_code
def yX4_markOwners : MethodName := ⟨RX4, "markOwners", "()V"⟩
abbrev cX4_liesOnTwo : ByteArray := prog_6_method_21_code
def yX4_liesOnTwo : MethodName := ⟨RX4, "liesOnTwo", "(I)Z"⟩
abbrev cX4_ownerOf : ByteArray := prog_6_method_22_code
def yX4_ownerOf : MethodName := ⟨RX4, "ownerOf", "(II)I"⟩
abbrev cX4_isSquare : ByteArray := prog_6_method_23_code
def yX4_isSquare : MethodName := ⟨RX4, "isSquare", "(II)Z"⟩
def RX5 : String := "CaseLine$Tours"
def TX5 : u_T := fun k => match k with
  | 0 => ("CaseLine$Tours", "minutesOf", "[I", true)
  | 1 => ("CaseLine$Tours", "stainOf", "[I", true)
  | 2 => ("CaseLine$Tours", "rest", "[I", true)
  | 3 => ("CaseLine$Tours", "wanted", "I", false)
  | _ => ("CaseLine$Tours", "cleaning", "I", false)
def tyX5 : Nat → FieldType := fun k => match k with
  | 0 => .array .int
  | 1 => .array .int
  | 2 => .array .int
  | 3 => .int
  | _ => .int
abbrev wsX50 : List Cond := u_ws RX5 TX5 5
theorem nmX5 : ∀ a, a < 5 → ∀ b, b < 5 → a ≠ b → (TX5 a).2.1 ≠ (TX5 b).2.1 := by decide +kernel
theorem tyX5_ok : ∀ k, k < 5 → parseFieldDescriptor (TX5 k).2.2.1 = some (tyX5 k) := by decide +kernel
abbrev cX5_init : ByteArray := prog_7_method_1_code
def yX5_init : MethodName := ⟨RX5, "<init>", "()V"⟩
abbrev cX5_putChange : ByteArray := prog_7_method_2_code
def yX5_putChange : MethodName := ⟨RX5, "putChange", "(III)I"⟩
abbrev cX5_putStain : ByteArray := prog_7_method_3_code
def yX5_putStain : MethodName := ⟨RX5, "putStain", "(II)I"⟩
abbrev cX5_isIn : ByteArray := prog_7_method_4_code
def yX5_isIn : MethodName := ⟨RX5, "isIn", "(II)Z"⟩
abbrev cX5_find : ByteArray := prog_7_method_5_code
def yX5_find : MethodName := ⟨RX5, "find", "(II)V"⟩
abbrev cX5_least : ByteArray := prog_7_method_6_code
def yX5_least : MethodName := ⟨RX5, "least", "(I)I"⟩
abbrev cX5_kindAt : ByteArray := prog_7_method_7_code
def yX5_kindAt : MethodName := ⟨RX5, "kindAt", "(II)I"⟩
abbrev cX5_leastRest : ByteArray := prog_7_method_8_code
def yX5_leastRest : MethodName := ⟨RX5, "leastRest", "(II)I"⟩
abbrev cX5_nextKind : ByteArray := prog_7_method_9_code
def yX5_nextKind : MethodName := ⟨RX5, "nextKind", "(II)I"⟩
abbrev cX5_minutesBy : ByteArray := prog_7_method_10_code
def yX5_minutesBy : MethodName := ⟨RX5, "minutesBy", "(III)I"⟩
abbrev cX5_restOf : ByteArray := prog_7_method_11_code
def yX5_restOf : MethodName := ⟨RX5, "restOf", "(II)I"⟩
abbrev cX5_minutes : ByteArray := prog_7_method_12_code
def yX5_minutes : MethodName := ⟨RX5, "minutes", "(II)I"⟩
def RX6 : String := "CaseLine"
def TX6 : u_T := fun k => match k with
  | 0 => ("CaseLine", "conveyor", "LCaseLine$Conveyor;", true)
  | 1 => ("CaseLine", "codes", "LCaseLine$Codes;", true)
  | 2 => ("CaseLine", "plan", "LCaseLine$Plan;", true)
  | 3 => ("CaseLine", "tours", "LCaseLine$Tours;", true)
  | 4 => ("CaseLine", "rules", "[I", true)
  | _ => ("CaseLine", "lotNow", "I", false)
def tyX6 : Nat → FieldType := fun k => match k with
  | 0 => .object "CaseLine$Conveyor"
  | 1 => .object "CaseLine$Codes"
  | 2 => .object "CaseLine$Plan"
  | 3 => .object "CaseLine$Tours"
  | 4 => .array .int
  | _ => .int
abbrev wsX60 : List Cond := u_ws RX6 TX6 6
theorem nmX6 : ∀ a, a < 6 → ∀ b, b < 6 → a ≠ b → (TX6 a).2.1 ≠ (TX6 b).2.1 := by decide +kernel
theorem tyX6_ok : ∀ k, k < 6 → parseFieldDescriptor (TX6 k).2.2.1 = some (tyX6 k) := by decide +kernel
abbrev cX6_init : ByteArray := prog_1_method_1_code
def yX6_init : MethodName := ⟨RX6, "<init>", "()V"⟩
abbrev cX6_line : ByteArray := prog_1_method_2_code
def yX6_line : MethodName := ⟨RX6, "line", "(I)I"⟩
abbrev cX6_set : ByteArray := prog_1_method_3_code
def yX6_set : MethodName := ⟨RX6, "set", "(III)I"⟩
abbrev cX6_fault : ByteArray := prog_1_method_4_code
def yX6_fault : MethodName := ⟨RX6, "fault", "(III)I"⟩
abbrev cX6_supply : ByteArray := prog_1_method_5_code
def yX6_supply : MethodName := ⟨RX6, "supply", "(I)I"⟩
abbrev cX6_lot : ByteArray := prog_1_method_6_code
def yX6_lot : MethodName := ⟨RX6, "lot", "(I)I"⟩
abbrev cX6_ticks : ByteArray := prog_1_method_7_code
def yX6_ticks : MethodName := ⟨RX6, "ticks", "(I)I"⟩
abbrev cX6_confirm : ByteArray := prog_1_method_8_code
def yX6_confirm : MethodName := ⟨RX6, "confirm", "(I)I"⟩
abbrev cX6_about : ByteArray := prog_1_method_9_code
def yX6_about : MethodName := ⟨RX6, "about", "(II)I"⟩
abbrev cX6_cause : ByteArray := prog_1_method_10_code
def yX6_cause : MethodName := ⟨RX6, "cause", "(I)I"⟩
abbrev cX6_book : ByteArray := prog_1_method_11_code
def yX6_book : MethodName := ⟨RX6, "book", "(I)I"⟩
abbrev cX6_rule : ByteArray := prog_1_method_12_code
def yX6_rule : MethodName := ⟨RX6, "rule", "(II)I"⟩
abbrev cX6_pack : ByteArray := prog_1_method_13_code
def yX6_pack : MethodName := ⟨RX6, "pack", "(II)I"⟩
abbrev cX6_close : ByteArray := prog_1_method_14_code
def yX6_close : MethodName := ⟨RX6, "close", "(I)I"⟩
abbrev cX6_weigh : ByteArray := prog_1_method_15_code
def yX6_weigh : MethodName := ⟨RX6, "weigh", "(II)I"⟩
abbrev cX6_stack : ByteArray := prog_1_method_16_code
def yX6_stack : MethodName := ⟨RX6, "stack", "(II)I"⟩
abbrev cX6_seal : ByteArray := prog_1_method_17_code
def yX6_seal : MethodName := ⟨RX6, "seal", "(I)I"⟩
abbrev cX6_breakUp : ByteArray := prog_1_method_18_code
def yX6_breakUp : MethodName := ⟨RX6, "breakUp", "(II)I"⟩
abbrev cX6_code : ByteArray := prog_1_method_19_code
def yX6_code : MethodName := ⟨RX6, "code", "(II)I"⟩
abbrev cX6_box : ByteArray := prog_1_method_20_code
def yX6_box : MethodName := ⟨RX6, "box", "(II)I"⟩
abbrev cX6_recall : ByteArray := prog_1_method_21_code
def yX6_recall : MethodName := ⟨RX6, "recall", "(II)I"⟩
abbrev cX6_layer : ByteArray := prog_1_method_22_code
def yX6_layer : MethodName := ⟨RX6, "layer", "(IIII)I"⟩
abbrev cX6_planned : ByteArray := prog_1_method_23_code
def yX6_planned : MethodName := ⟨RX6, "planned", "(II)I"⟩
abbrev cX6_holds : ByteArray := prog_1_method_24_code
def yX6_holds : MethodName := ⟨RX6, "holds", "()I"⟩
abbrev cX6_change : ByteArray := prog_1_method_25_code
def yX6_change : MethodName := ⟨RX6, "change", "(III)I"⟩
abbrev cX6_stain : ByteArray := prog_1_method_26_code
def yX6_stain : MethodName := ⟨RX6, "stain", "(II)I"⟩
abbrev cX6_tour : ByteArray := prog_1_method_27_code
def yX6_tour : MethodName := ⟨RX6, "tour", "(III)I"⟩
abbrev cX6_scale : ByteArray := prog_1_method_28_code
def yX6_scale : MethodName := ⟨RX6, "scale", "(II)I"⟩
abbrev cX6_scales : ByteArray := prog_1_method_29_code
def yX6_scales : MethodName := ⟨RX6, "scales", "(I)I"⟩
abbrev cX6_within : ByteArray := prog_1_method_30_code
def yX6_within : MethodName := ⟨RX6, "within", "(III)Z"⟩
abbrev cX6_isBox : ByteArray := prog_1_method_31_code
def yX6_isBox : MethodName := ⟨RX6, "isBox", "(I)Z"⟩
abbrev cX6_isPallet : ByteArray := prog_1_method_32_code
def yX6_isPallet : MethodName := ⟨RX6, "isPallet", "(I)Z"⟩
abbrev cX6_isSide : ByteArray := prog_1_method_33_code
def yX6_isSide : MethodName := ⟨RX6, "isSide", "(I)Z"⟩
abbrev cX6_isKind : ByteArray := prog_1_method_34_code
def yX6_isKind : MethodName := ⟨RX6, "isKind", "(I)Z"⟩
def RX7 : String := "CaseLineModel"
def TX7 : u_T := fun k => match k with
  | 0 => ("CaseLineModel", "machines", "I", false)
  | 1 => ("CaseLineModel", "pace", "[I", true)
  | 2 => ("CaseLineModel", "rejects", "[I", true)
  | 3 => ("CaseLineModel", "samples", "[I", true)
  | 4 => ("CaseLineModel", "room", "[I", true)
  | 5 => ("CaseLineModel", "gap", "[I", true)
  | 6 => ("CaseLineModel", "state", "[I", true)
  | 7 => ("CaseLineModel", "finished", "[I", true)
  | 8 => ("CaseLineModel", "rejected", "[I", true)
  | 9 => ("CaseLineModel", "sampled", "[I", true)
  | 10 => ("CaseLineModel", "ran", "[I", true)
  | 11 => ("CaseLineModel", "work", "[I", true)
  | 12 => ("CaseLineModel", "waiting", "[I", true)
  | 13 => ("CaseLineModel", "firstReject", "[I", true)
  | 14 => ("CaseLineModel", "faults", "I", false)
  | 15 => ("CaseLineModel", "faultOf", "[I", true)
  | 16 => ("CaseLineModel", "faultA", "[I", true)
  | 17 => ("CaseLineModel", "faultB", "[I", true)
  | 18 => ("CaseLineModel", "tick", "I", false)
  | 19 => ("CaseLineModel", "stock", "I", false)
  | 20 => ("CaseLineModel", "taken", "I", false)
  | 21 => ("CaseLineModel", "good", "I", false)
  | 22 => ("CaseLineModel", "still", "I", false)
  | 23 => ("CaseLineModel", "causes", "[I", true)
  | 24 => ("CaseLineModel", "lotNow", "I", false)
  | 25 => ("CaseLineModel", "codes", "I", false)
  | 26 => ("CaseLineModel", "lots", "[I", true)
  | 27 => ("CaseLineModel", "caseOf", "[I", true)
  | 28 => ("CaseLineModel", "weight", "[I", true)
  | 29 => ("CaseLineModel", "isClosed", "[Z", true)
  | 30 => ("CaseLineModel", "palletOf", "[I", true)
  | 31 => ("CaseLineModel", "isSealed", "[Z", true)
  | 32 => ("CaseLineModel", "rules", "[I", true)
  | 33 => ("CaseLineModel", "change", "[I", true)
  | 34 => ("CaseLineModel", "stains", "[I", true)
  | 35 => ("CaseLineModel", "layerX", "I", false)
  | 36 => ("CaseLineModel", "layerY", "I", false)
  | 37 => ("CaseLineModel", "most", "[I", true)
  | 38 => ("CaseLineModel", "plannedMany", "I", false)
  | 39 => ("CaseLineModel", "plan", "[I", true)
  | 40 => ("CaseLineModel", "piled", "I", false)
  | 41 => ("CaseLineModel", "pile", "[I", true)
  | _ => ("CaseLineModel", "rest", "[I", true)
def tyX7 : Nat → FieldType := fun k => match k with
  | 0 => .int
  | 1 => .array .int
  | 2 => .array .int
  | 3 => .array .int
  | 4 => .array .int
  | 5 => .array .int
  | 6 => .array .int
  | 7 => .array .int
  | 8 => .array .int
  | 9 => .array .int
  | 10 => .array .int
  | 11 => .array .int
  | 12 => .array .int
  | 13 => .array .int
  | 14 => .int
  | 15 => .array .int
  | 16 => .array .int
  | 17 => .array .int
  | 18 => .int
  | 19 => .int
  | 20 => .int
  | 21 => .int
  | 22 => .int
  | 23 => .array .int
  | 24 => .int
  | 25 => .int
  | 26 => .array .int
  | 27 => .array .int
  | 28 => .array .int
  | 29 => .array .boolean
  | 30 => .array .int
  | 31 => .array .boolean
  | 32 => .array .int
  | 33 => .array .int
  | 34 => .array .int
  | 35 => .int
  | 36 => .int
  | 37 => .array .int
  | 38 => .int
  | 39 => .array .int
  | 40 => .int
  | 41 => .array .int
  | _ => .array .int
abbrev wsX70 : List Cond := u_ws RX7 TX7 43
theorem nmX7 : ∀ a, a < 43 → ∀ b, b < 43 → a ≠ b → (TX7 a).2.1 ≠ (TX7 b).2.1 := by decide +kernel
theorem tyX7_ok : ∀ k, k < 43 → parseFieldDescriptor (TX7 k).2.2.1 = some (tyX7 k) := by decide +kernel
abbrev cX7_init : ByteArray := prog_9_method_1_code
def yX7_init : MethodName := ⟨RX7, "<init>", "()V"⟩
abbrev cX7_in : ByteArray := prog_9_method_2_code
def yX7_in : MethodName := ⟨RX7, "in", "(III)Z"⟩
abbrev cX7_begins : ByteArray := prog_9_method_3_code
def yX7_begins : MethodName := ⟨RX7, "begins", "(I)V"⟩
abbrev cX7_line : ByteArray := prog_9_method_4_code
def yX7_line : MethodName := ⟨RX7, "line", "(I)I"⟩
abbrev cX7_isMachine : ByteArray := prog_9_method_5_code
def yX7_isMachine : MethodName := ⟨RX7, "isMachine", "(I)Z"⟩
abbrev cX7_set : ByteArray := prog_9_method_6_code
def yX7_set : MethodName := ⟨RX7, "set", "(III)I"⟩
abbrev cX7_fault : ByteArray := prog_9_method_7_code
def yX7_fault : MethodName := ⟨RX7, "fault", "(III)I"⟩
abbrev cX7_supply : ByteArray := prog_9_method_8_code
def yX7_supply : MethodName := ⟨RX7, "supply", "(I)I"⟩
abbrev cX7_lot : ByteArray := prog_9_method_9_code
def yX7_lot : MethodName := ⟨RX7, "lot", "(I)I"⟩
abbrev cX7_isFaulty : ByteArray := prog_9_method_10_code
def yX7_isFaulty : MethodName := ⟨RX7, "isFaulty", "(I)Z"⟩
abbrev cX7_finishes : ByteArray := prog_9_method_11_code
def yX7_finishes : MethodName := ⟨RX7, "finishes", "(I)V"⟩
abbrev cX7_takes : ByteArray := prog_9_method_12_code
def yX7_takes : MethodName := ⟨RX7, "takes", "(I)Z"⟩
abbrev cX7_steps : ByteArray := prog_9_method_13_code
def yX7_steps : MethodName := ⟨RX7, "steps", "(I)I"⟩
abbrev cX7_passes : ByteArray := prog_9_method_14_code
def yX7_passes : MethodName := ⟨RX7, "passes", "()V"⟩
abbrev cX7_ticks : ByteArray := prog_9_method_15_code
def yX7_ticks : MethodName := ⟨RX7, "ticks", "(I)I"⟩
abbrev cX7_confirm : ByteArray := prog_9_method_16_code
def yX7_confirm : MethodName := ⟨RX7, "confirm", "(I)I"⟩
abbrev cX7_about : ByteArray := prog_9_method_17_code
def yX7_about : MethodName := ⟨RX7, "about", "(II)I"⟩
abbrev cX7_cause : ByteArray := prog_9_method_18_code
def yX7_cause : MethodName := ⟨RX7, "cause", "(I)I"⟩
abbrev cX7_book : ByteArray := prog_9_method_19_code
def yX7_book : MethodName := ⟨RX7, "book", "(I)I"⟩
abbrev cX7_isCase : ByteArray := prog_9_method_20_code
def yX7_isCase : MethodName := ⟨RX7, "isCase", "(I)Z"⟩
abbrev cX7_isPallet : ByteArray := prog_9_method_21_code
def yX7_isPallet : MethodName := ⟨RX7, "isPallet", "(I)Z"⟩
abbrev cX7_isCode : ByteArray := prog_9_method_22_code
def yX7_isCode : MethodName := ⟨RX7, "isCode", "(I)Z"⟩
abbrev cX7_units : ByteArray := prog_9_method_23_code
def yX7_units : MethodName := ⟨RX7, "units", "(I)I"⟩
abbrev cX7_casesOn : ByteArray := prog_9_method_24_code
def yX7_casesOn : MethodName := ⟨RX7, "casesOn", "(I)I"⟩
abbrev cX7_rule : ByteArray := prog_9_method_25_code
def yX7_rule : MethodName := ⟨RX7, "rule", "(II)I"⟩
abbrev cX7_pack : ByteArray := prog_9_method_26_code
def yX7_pack : MethodName := ⟨RX7, "pack", "(II)I"⟩
abbrev cX7_close : ByteArray := prog_9_method_27_code
def yX7_close : MethodName := ⟨RX7, "close", "(I)I"⟩
abbrev cX7_leastIn : ByteArray := prog_9_method_28_code
def yX7_leastIn : MethodName := ⟨RX7, "leastIn", "(I)I"⟩
abbrev cX7_greatestIn : ByteArray := prog_9_method_29_code
def yX7_greatestIn : MethodName := ⟨RX7, "greatestIn", "(I)I"⟩
abbrev cX7_weigh : ByteArray := prog_9_method_30_code
def yX7_weigh : MethodName := ⟨RX7, "weigh", "(II)I"⟩
abbrev cX7_stack : ByteArray := prog_9_method_31_code
def yX7_stack : MethodName := ⟨RX7, "stack", "(II)I"⟩
abbrev cX7_seal : ByteArray := prog_9_method_32_code
def yX7_seal : MethodName := ⟨RX7, "seal", "(I)I"⟩
abbrev cX7_breakUp : ByteArray := prog_9_method_33_code
def yX7_breakUp : MethodName := ⟨RX7, "breakUp", "(II)I"⟩
abbrev cX7_code : ByteArray := prog_9_method_34_code
def yX7_code : MethodName := ⟨RX7, "code", "(II)I"⟩
abbrev cX7_box : ByteArray := prog_9_method_35_code
def yX7_box : MethodName := ⟨RX7, "box", "(II)I"⟩
abbrev cX7_recall : ByteArray := prog_9_method_36_code
def yX7_recall : MethodName := ⟨RX7, "recall", "(II)I"⟩
abbrev cX7_mostOf : ByteArray := prog_9_method_37_code
def yX7_mostOf : MethodName := ⟨RX7, "mostOf", "(II)I"⟩
abbrev cX7_wheel : ByteArray := prog_9_method_38_code
def yX7_wheel : MethodName := ⟨RX7, "wheel", "(IIIIII)I"⟩
abbrev cX7_best : ByteArray := prog_9_method_39_code
def yX7_best : MethodName := ⟨RX7, "best", "(IIII)I"⟩
abbrev cX7_piles : ByteArray := prog_9_method_40_code
def yX7_piles : MethodName := ⟨RX7, "piles", "(IIII)V"⟩
abbrev cX7_layer : ByteArray := prog_9_method_41_code
def yX7_layer : MethodName := ⟨RX7, "layer", "(IIII)I"⟩
abbrev cX7_plans : ByteArray := prog_9_method_42_code
def yX7_plans : MethodName := ⟨RX7, "plans", "(IIIIII)V"⟩
abbrev cX7_cuts : ByteArray := prog_9_method_43_code
def yX7_cuts : MethodName := ⟨RX7, "cuts", "(IIIII)Z"⟩
abbrev cX7_wheels : ByteArray := prog_9_method_44_code
def yX7_wheels : MethodName := ⟨RX7, "wheels", "(IIIII)V"⟩
abbrev cX7_planned : ByteArray := prog_9_method_45_code
def yX7_planned : MethodName := ⟨RX7, "planned", "(II)I"⟩
abbrev cX7_holds : ByteArray := prog_9_method_46_code
def yX7_holds : MethodName := ⟨RX7, "holds", "()I"⟩
abbrev cX7_change : ByteArray := prog_9_method_47_code
def yX7_change : MethodName := ⟨RX7, "change", "(III)I"⟩
abbrev cX7_stain : ByteArray := prog_9_method_48_code
def yX7_stain : MethodName := ⟨RX7, "stain", "(II)I"⟩
abbrev cX7_minutes : ByteArray := prog_9_method_49_code
def yX7_minutes : MethodName := ⟨RX7, "minutes", "(II)I"⟩
abbrev cX7_tour : ByteArray := prog_9_method_50_code
def yX7_tour : MethodName := ⟨RX7, "tour", "(III)I"⟩
abbrev cX7_scale : ByteArray := prog_9_method_51_code
def yX7_scale : MethodName := ⟨RX7, "scale", "(II)I"⟩
abbrev cX7_scales : ByteArray := prog_9_method_52_code
def yX7_scales : MethodName := ⟨RX7, "scales", "(I)I"⟩
def RJx8e188 : String := "java/lang/Cloneable"
def TJx8e188 : u_T := fun k => match k with
  | _ => ("", "", "", false)
def tyJx8e188 : Nat → FieldType := fun k => match k with
  | _ => .int
abbrev wsJx8e1880 : List Cond := u_ws RJx8e188 TJx8e188 0
theorem nmJx8e188 : ∀ a, a < 0 → ∀ b, b < 0 → a ≠ b → (TJx8e188 a).2.1 ≠ (TJx8e188 b).2.1 := by decide +kernel
theorem tyJx8e188_ok : ∀ k, k < 0 → parseFieldDescriptor (TJx8e188 k).2.2.1 = some (tyJx8e188 k) := by decide +kernel
def RJ9 : String := "java/lang/Math"
def TJ9 : u_T := fun k => match k with
  | _ => ("", "", "", false)
def tyJ9 : Nat → FieldType := fun k => match k with
  | _ => .int
abbrev wsJ90 : List Cond := u_ws RJ9 TJ9 0
theorem nmJ9 : ∀ a, a < 0 → ∀ b, b < 0 → a ≠ b → (TJ9 a).2.1 ≠ (TJ9 b).2.1 := by decide +kernel
theorem tyJ9_ok : ∀ k, k < 0 → parseFieldDescriptor (TJ9 k).2.2.1 = some (tyJ9 k) := by decide +kernel
abbrev cJ9_abs_0f7a4 : ByteArray := prog_11_method_59_code
def yJ9_abs_0f7a4 : MethodName := ⟨RJ9, "abs", "(I)I"⟩
abbrev cJ9_max_7cf53 : ByteArray := prog_11_method_65_code
def yJ9_max_7cf53 : MethodName := ⟨RJ9, "max", "(II)I"⟩
abbrev cJ9_min_7cf53 : ByteArray := prog_11_method_69_code
def yJ9_min_7cf53 : MethodName := ⟨RJ9, "min", "(II)I"⟩
def RJ10 : String := "java/lang/System"
def TJ10 : u_T := fun k => match k with
  | _ => ("", "", "", false)
def tyJ10 : Nat → FieldType := fun k => match k with
  | _ => .int
abbrev wsJ100 : List Cond := u_ws RJ10 TJ10 0
theorem nmJ10 : ∀ a, a < 0 → ∀ b, b < 0 → a ≠ b → (TJ10 a).2.1 ≠ (TJ10 b).2.1 := by decide +kernel
theorem tyJ10_ok : ∀ k, k < 0 → parseFieldDescriptor (TJ10 k).2.2.1 = some (tyJ10 k) := by decide +kernel
def RJ7 : String := "java/util/Arrays"
def TJ7 : u_T := fun k => match k with
  | _ => ("", "", "", false)
def tyJ7 : Nat → FieldType := fun k => match k with
  | _ => .int
abbrev wsJ70 : List Cond := u_ws RJ7 TJ7 0
theorem nmJ7 : ∀ a, a < 0 → ∀ b, b < 0 → a ≠ b → (TJ7 a).2.1 ≠ (TJ7 b).2.1 := by decide +kernel
theorem tyJ7_ok : ∀ k, k < 0 → parseFieldDescriptor (TJ7 k).2.2.1 = some (tyJ7 k) := by decide +kernel
abbrev cJ7_fill_53178 : ByteArray := prog_13_method_103_code
def yJ7_fill_53178 : MethodName := ⟨RJ7, "fill", "([II)V"⟩
def RL : String := "CaseLineLaw"
abbrev cL_law : ByteArray := code
def yL_law : MethodName := ⟨RL, "law", "([I)Z"⟩
def wsJ7_fill_53178 : List Cond := .code yJ7_fill_53178 cJ7_fill_53178 4 none :: ([])
def wsX0_init : List Cond := .code yX0_init cX0_init 1 none :: ([.methodLink RX0 3 objectInit, .instanceMethod objectInit, .code objectInit ⟨#[0xb1]⟩ 1 none, .arrayClass .int, .fieldLink RX0 11 "CaseLine$Codes" "boxOf" "[I", .fieldLink RX0 15 "CaseLine$Codes" "lotOf" "[I", .fieldLink RX0 18 "CaseLine$Codes" "weightOf" "[I", .fieldLink RX0 21 "CaseLine$Codes" "unitsIn" "[I", .arrayClass .boolean, .fieldLink RX0 24 "CaseLine$Codes" "boxClosed" "[Z", .fieldLink RX0 28 "CaseLine$Codes" "palletOf" "[I", .fieldLink RX0 31 "CaseLine$Codes" "boxesOn" "[I", .fieldLink RX0 34 "CaseLine$Codes" "palletClosed" "[Z", .methodLink RX0 37 yJ7_fill_53178, .static yJ7_fill_53178, .initialized RJ7, .code yJ7_fill_53178 cJ7_fill_53178 4 none] ++ wsX00)
def wsX0_add : List Cond := .code yX0_add cX0_add 2 none :: ([.fieldLink RX0 43 "CaseLine$Codes" "count" "I", .fieldLink RX0 11 "CaseLine$Codes" "boxOf" "[I", .fieldLink RX0 15 "CaseLine$Codes" "lotOf" "[I", .fieldLink RX0 18 "CaseLine$Codes" "weightOf" "[I"] ++ wsX00)
def wsX6_within : List Cond := .code yX6_within cX6_within 3 (some .boolean) :: ([])
def wsX0_known : List Cond := .code yX0_known cX0_known 2 (some .boolean) :: ([.fieldLink RX0 43 "CaseLine$Codes" "count" "I", .static yX6_within, .initialized RX6, .code yX6_within cX6_within 3 (some .boolean)] ++ wsX00)
def wsX0_packInto : List Cond := .code yX0_packInto cX0_packInto 4 (some .int) :: ([.fieldLink RX0 11 "CaseLine$Codes" "boxOf" "[I", .fieldLink RX0 24 "CaseLine$Codes" "boxClosed" "[Z", .fieldLink RX0 21 "CaseLine$Codes" "unitsIn" "[I", .methodLink RX0 51 yX0_known, .instanceMethod yX0_known, .selects RX0 yX0_known yX0_known, .initialized RX0, .code yX0_known cX0_known 2 (some .boolean), .fieldLink RX0 43 "CaseLine$Codes" "count" "I", .static yX6_within, .initialized RX6, .code yX6_within cX6_within 3 (some .boolean)] ++ wsX00)
def wsX0_closeBox : List Cond := .code yX0_closeBox cX0_closeBox 3 (some .int) :: ([.fieldLink RX0 24 "CaseLine$Codes" "boxClosed" "[Z", .fieldLink RX0 21 "CaseLine$Codes" "unitsIn" "[I"] ++ wsX00)
def wsX0_leastIn : List Cond := .code yX0_leastIn cX0_leastIn 3 (some .int) :: ([.fieldLink RX0 43 "CaseLine$Codes" "count" "I", .fieldLink RX0 11 "CaseLine$Codes" "boxOf" "[I"] ++ wsX00)
def wsX0_greatestIn : List Cond := .code yX0_greatestIn cX0_greatestIn 3 (some .int) :: ([.fieldLink RX0 43 "CaseLine$Codes" "count" "I", .fieldLink RX0 11 "CaseLine$Codes" "boxOf" "[I"] ++ wsX00)
def wsX0_onlyLooseIn : List Cond := .code yX0_onlyLooseIn cX0_onlyLooseIn 5 (some .int) :: ([.methodLink RX0 66 Lib.Math.max.name, .static Lib.Math.max.name, .initialized "java/lang/Math", .code Lib.Math.max.name Lib.Math.max.code 2 (some .int), .fieldLink RX0 43 "CaseLine$Codes" "count" "I", .fieldLink RX0 11 "CaseLine$Codes" "boxOf" "[I"] ++ wsX00)
def wsX0_closeWithLost_r1 : List Cond := [Cond.fieldLink RX0 24 "CaseLine$Codes" "boxClosed" "[Z", Cond.fieldLink RX0 21 "CaseLine$Codes" "unitsIn" "[I", Cond.fieldLink RX0 11 "CaseLine$Codes" "boxOf" "[I", Cond.methodLink RX0 55 yX0_leastIn, Cond.instanceMethod yX0_leastIn, Cond.selects RX0 yX0_leastIn yX0_leastIn, Cond.initialized RX0, Cond.code yX0_leastIn cX0_leastIn 3 (some .int), Cond.fieldLink RX0 43 "CaseLine$Codes" "count" "I", Cond.methodLink RX0 59 yX0_greatestIn, Cond.instanceMethod yX0_greatestIn, Cond.selects RX0 yX0_greatestIn yX0_greatestIn, Cond.code yX0_greatestIn cX0_greatestIn 3 (some .int), Cond.methodLink RX0 62 yX0_onlyLooseIn, Cond.instanceMethod yX0_onlyLooseIn, Cond.selects RX0 yX0_onlyLooseIn yX0_onlyLooseIn, Cond.code yX0_onlyLooseIn cX0_onlyLooseIn 5 (some .int), Cond.methodLink RX0 66 Lib.Math.max.name, Cond.static Lib.Math.max.name, Cond.initialized "java/lang/Math", Cond.code Lib.Math.max.name Lib.Math.max.code 2 (some .int), Cond.methodLink RX0 51 yX0_known, Cond.instanceMethod yX0_known, Cond.selects RX0 yX0_known yX0_known]
def wsX0_closeWithLost_r2 : List Cond := [Cond.code yX0_known cX0_known 2 (some .boolean), Cond.static yX6_within, Cond.initialized RX6, Cond.code yX6_within cX6_within 3 (some .boolean)]
def wsX0_closeWithLost : List Cond := .code yX0_closeWithLost cX0_closeWithLost 4 (some .int) :: ((wsX0_closeWithLost_r1 ++ wsX0_closeWithLost_r2) ++ wsX00)
def wsX0_stackOn : List Cond := .code yX0_stackOn cX0_stackOn 4 (some .int) :: ([.fieldLink RX0 24 "CaseLine$Codes" "boxClosed" "[Z", .fieldLink RX0 28 "CaseLine$Codes" "palletOf" "[I", .fieldLink RX0 34 "CaseLine$Codes" "palletClosed" "[Z", .fieldLink RX0 31 "CaseLine$Codes" "boxesOn" "[I"] ++ wsX00)
def wsX0_sealPallet : List Cond := .code yX0_sealPallet cX0_sealPallet 2 (some .int) :: ([.fieldLink RX0 34 "CaseLine$Codes" "palletClosed" "[Z", .fieldLink RX0 31 "CaseLine$Codes" "boxesOn" "[I"] ++ wsX00)
def wsX0_breakBox : List Cond := .code yX0_breakBox cX0_breakBox 4 (some .int) :: ([.fieldLink RX0 28 "CaseLine$Codes" "palletOf" "[I", .fieldLink RX0 21 "CaseLine$Codes" "unitsIn" "[I", .fieldLink RX0 43 "CaseLine$Codes" "count" "I", .fieldLink RX0 11 "CaseLine$Codes" "boxOf" "[I", .fieldLink RX0 24 "CaseLine$Codes" "boxClosed" "[Z"] ++ wsX00)
def wsX0_breakPallet : List Cond := .code yX0_breakPallet cX0_breakPallet 4 (some .int) :: ([.fieldLink RX0 31 "CaseLine$Codes" "boxesOn" "[I", .fieldLink RX0 28 "CaseLine$Codes" "palletOf" "[I", .fieldLink RX0 34 "CaseLine$Codes" "palletClosed" "[Z"] ++ wsX00)
def wsX0_fullestCase : List Cond := .code yX0_fullestCase cX0_fullestCase 3 (some .int) :: ([.fieldLink RX0 21 "CaseLine$Codes" "unitsIn" "[I", .methodLink RX0 66 Lib.Math.max.name, .static Lib.Math.max.name, .initialized "java/lang/Math", .code Lib.Math.max.name Lib.Math.max.code 2 (some .int)] ++ wsX00)
def wsX0_fullestPallet : List Cond := .code yX0_fullestPallet cX0_fullestPallet 3 (some .int) :: ([.fieldLink RX0 31 "CaseLine$Codes" "boxesOn" "[I", .methodLink RX0 66 Lib.Math.max.name, .static Lib.Math.max.name, .initialized "java/lang/Math", .code Lib.Math.max.name Lib.Math.max.code 2 (some .int)] ++ wsX00)
def wsX6_isBox : List Cond := .code yX6_isBox cX6_isBox 1 (some .boolean) :: ([.methodLink RX6 49 yX6_within, .static yX6_within, .initialized RX6, .code yX6_within cX6_within 3 (some .boolean)])
def wsX0_palletOfCode : List Cond := .code yX0_palletOfCode cX0_palletOfCode 3 (some .int) :: ([.fieldLink RX0 11 "CaseLine$Codes" "boxOf" "[I", .fieldLink RX0 28 "CaseLine$Codes" "palletOf" "[I", .static yX6_isBox, .initialized RX6, .code yX6_isBox cX6_isBox 1 (some .boolean), .methodLink RX6 49 yX6_within, .static yX6_within, .code yX6_within cX6_within 3 (some .boolean)] ++ wsX00)
def wsX0_boxesWith : List Cond := .code yX0_boxesWith cX0_boxesWith 4 (some .int) :: ([.fieldLink RX0 43 "CaseLine$Codes" "count" "I", .fieldLink RX0 15 "CaseLine$Codes" "lotOf" "[I", .fieldLink RX0 11 "CaseLine$Codes" "boxOf" "[I", .static yX6_isBox, .initialized RX6, .code yX6_isBox cX6_isBox 1 (some .boolean), .methodLink RX6 49 yX6_within, .static yX6_within, .code yX6_within cX6_within 3 (some .boolean)] ++ wsX00)
def wsX6_isPallet : List Cond := .code yX6_isPallet cX6_isPallet 1 (some .boolean) :: ([.methodLink RX6 49 yX6_within, .static yX6_within, .initialized RX6, .code yX6_within cX6_within 3 (some .boolean)])
def wsX0_palletsWith : List Cond := .code yX0_palletsWith cX0_palletsWith 5 (some .int) :: ([.fieldLink RX0 43 "CaseLine$Codes" "count" "I", .fieldLink RX0 15 "CaseLine$Codes" "lotOf" "[I", .methodLink RX0 74 yX0_palletOfCode, .instanceMethod yX0_palletOfCode, .selects RX0 yX0_palletOfCode yX0_palletOfCode, .initialized RX0, .code yX0_palletOfCode cX0_palletOfCode 3 (some .int), .fieldLink RX0 11 "CaseLine$Codes" "boxOf" "[I", .fieldLink RX0 28 "CaseLine$Codes" "palletOf" "[I", .static yX6_isBox, .initialized RX6, .code yX6_isBox cX6_isBox 1 (some .boolean), .methodLink RX6 49 yX6_within, .static yX6_within, .code yX6_within cX6_within 3 (some .boolean), .static yX6_isPallet, .code yX6_isPallet cX6_isPallet 1 (some .boolean)] ++ wsX00)
def wsX0_looseOf : List Cond := .code yX0_looseOf cX0_looseOf 4 (some .int) :: ([.fieldLink RX0 43 "CaseLine$Codes" "count" "I", .fieldLink RX0 15 "CaseLine$Codes" "lotOf" "[I", .fieldLink RX0 11 "CaseLine$Codes" "boxOf" "[I"] ++ wsX00)
def wsX0_putWeight : List Cond := .code yX0_putWeight cX0_putWeight 4 (some .int) :: ([.fieldLink RX0 18 "CaseLine$Codes" "weightOf" "[I"] ++ wsX00)
def wsX0_givenAway : List Cond := .code yX0_givenAway cX0_givenAway 4 (some .int) :: ([.fieldLink RX0 43 "CaseLine$Codes" "count" "I", .fieldLink RX0 18 "CaseLine$Codes" "weightOf" "[I", .methodLink RX0 66 Lib.Math.max.name, .static Lib.Math.max.name, .initialized "java/lang/Math", .code Lib.Math.max.name Lib.Math.max.code 2 (some .int)] ++ wsX00)
def wsX0_lighterThan : List Cond := .code yX0_lighterThan cX0_lighterThan 4 (some .int) :: ([.fieldLink RX0 43 "CaseLine$Codes" "count" "I", .fieldLink RX0 18 "CaseLine$Codes" "weightOf" "[I"] ++ wsX00)
def wsX0_weighed : List Cond := .code yX0_weighed cX0_weighed 3 (some .int) :: ([.fieldLink RX0 43 "CaseLine$Codes" "count" "I", .fieldLink RX0 18 "CaseLine$Codes" "weightOf" "[I"] ++ wsX00)
def wsX2_init : List Cond := .code yX2_init cX2_init 1 none :: ([.methodLink RX2 3 objectInit, .instanceMethod objectInit, .code objectInit ⟨#[0xb1]⟩ 1 none, .arrayClass .int, .fieldLink RX2 11 "CaseLine$Faults" "machineOf" "[I", .fieldLink RX2 15 "CaseLine$Faults" "firstTick" "[I", .fieldLink RX2 18 "CaseLine$Faults" "lastTick" "[I"] ++ wsX20)
def wsX3_renew : List Cond := .code yX3_renew cX3_renew 1 none :: ([.fieldLink RX3 26 "CaseLine$Machine" "AT_FIRST" "[I", .fieldLink RX3 11 "CaseLine$Machine" "setting" "[I", .methodLink RX3 29 arraycopyName, .native arraycopyName, .static arraycopyName, .initialized "java/lang/System", .fieldLink RX3 35 "CaseLine$Machine" "inGap" "I", .fieldLink RX3 38 "CaseLine$Machine" "working" "Z", .fieldLink RX3 42 "CaseLine$Machine" "holding" "Z", .fieldLink RX3 45 "CaseLine$Machine" "ticksOnUnit" "I", .fieldLink RX3 48 "CaseLine$Machine" "finished" "I", .fieldLink RX3 51 "CaseLine$Machine" "rejected" "I", .fieldLink RX3 54 "CaseLine$Machine" "sampled" "I", .fieldLink RX3 57 "CaseLine$Machine" "unconfirmed" "I", .fieldLink RX3 60 "CaseLine$Machine" "oldestReject" "I", .fieldLink RX3 63 "CaseLine$Machine" "state" "I", .fieldLink RX3 66 "CaseLine$Machine" "ran" "I"] ++ wsX30)
def wsX3_init_r1 : List Cond := [Cond.methodLink RX3 3 objectInit, Cond.instanceMethod objectInit, Cond.code objectInit ⟨#[0xb1]⟩ 1 none, Cond.arrayClass .int, Cond.fieldLink RX3 11 "CaseLine$Machine" "setting" "[I", Cond.fieldLink RX3 15 "CaseLine$Machine" "number" "I", Cond.fieldLink RX3 19 "CaseLine$Machine" "ahead" "LCaseLine$Machine;", Cond.methodLink RX3 23 yX3_renew, Cond.instanceMethod yX3_renew, Cond.selects RX3 yX3_renew yX3_renew, Cond.initialized RX3, Cond.code yX3_renew cX3_renew 1 none, Cond.fieldLink RX3 26 "CaseLine$Machine" "AT_FIRST" "[I", Cond.methodLink RX3 29 arraycopyName, Cond.native arraycopyName, Cond.static arraycopyName, Cond.initialized "java/lang/System", Cond.fieldLink RX3 35 "CaseLine$Machine" "inGap" "I", Cond.fieldLink RX3 38 "CaseLine$Machine" "working" "Z", Cond.fieldLink RX3 42 "CaseLine$Machine" "holding" "Z", Cond.fieldLink RX3 45 "CaseLine$Machine" "ticksOnUnit" "I", Cond.fieldLink RX3 48 "CaseLine$Machine" "finished" "I", Cond.fieldLink RX3 51 "CaseLine$Machine" "rejected" "I", Cond.fieldLink RX3 54 "CaseLine$Machine" "sampled" "I"]
def wsX3_init_r2 : List Cond := [Cond.fieldLink RX3 57 "CaseLine$Machine" "unconfirmed" "I", Cond.fieldLink RX3 60 "CaseLine$Machine" "oldestReject" "I", Cond.fieldLink RX3 63 "CaseLine$Machine" "state" "I", Cond.fieldLink RX3 66 "CaseLine$Machine" "ran" "I"]
def wsX3_init : List Cond := .code yX3_init cX3_init 3 none :: ((wsX3_init_r1 ++ wsX3_init_r2) ++ wsX30)
def wsX1_init_r1 : List Cond := [Cond.methodLink RX1 1 objectInit, Cond.instanceMethod objectInit, Cond.code objectInit ⟨#[0xb1]⟩ 1 none, Cond.classLink RX1 9 RX3, Cond.fieldLink RX1 11 "CaseLine$Conveyor" "machines" "[LCaseLine$Machine;", Cond.classLink RX1 15 RX2, Cond.instantiable RX2 4, Cond.initialized RX2, Cond.fieldLink RX1 18 "CaseLine$Conveyor" "faults" "LCaseLine$Faults;", Cond.arrayClass .int, Cond.fieldLink RX1 22 "CaseLine$Conveyor" "laidOn" "[I", Cond.instantiable RX3 14, Cond.initialized RX3, Cond.fieldLink RX1 29 "CaseLine$Conveyor" "count" "I", Cond.instanceMethod yX2_init, Cond.code yX2_init cX2_init 1 none, Cond.methodLink RX2 3 objectInit, Cond.fieldLink RX2 11 "CaseLine$Faults" "machineOf" "[I", Cond.fieldLink RX2 15 "CaseLine$Faults" "firstTick" "[I", Cond.fieldLink RX2 18 "CaseLine$Faults" "lastTick" "[I", Cond.methodLink RX1 26 yX3_init, Cond.instanceMethod yX3_init, Cond.code yX3_init cX3_init 3 none, Cond.methodLink RX3 3 objectInit]
def wsX1_init_r2 : List Cond := [Cond.fieldLink RX3 11 "CaseLine$Machine" "setting" "[I", Cond.fieldLink RX3 15 "CaseLine$Machine" "number" "I", Cond.fieldLink RX3 19 "CaseLine$Machine" "ahead" "LCaseLine$Machine;", Cond.methodLink RX3 23 yX3_renew, Cond.instanceMethod yX3_renew, Cond.selects RX3 yX3_renew yX3_renew, Cond.code yX3_renew cX3_renew 1 none, Cond.fieldLink RX3 26 "CaseLine$Machine" "AT_FIRST" "[I", Cond.methodLink RX3 29 arraycopyName, Cond.native arraycopyName, Cond.static arraycopyName, Cond.initialized "java/lang/System", Cond.fieldLink RX3 35 "CaseLine$Machine" "inGap" "I", Cond.fieldLink RX3 38 "CaseLine$Machine" "working" "Z", Cond.fieldLink RX3 42 "CaseLine$Machine" "holding" "Z", Cond.fieldLink RX3 45 "CaseLine$Machine" "ticksOnUnit" "I", Cond.fieldLink RX3 48 "CaseLine$Machine" "finished" "I", Cond.fieldLink RX3 51 "CaseLine$Machine" "rejected" "I", Cond.fieldLink RX3 54 "CaseLine$Machine" "sampled" "I", Cond.fieldLink RX3 57 "CaseLine$Machine" "unconfirmed" "I", Cond.fieldLink RX3 60 "CaseLine$Machine" "oldestReject" "I", Cond.fieldLink RX3 63 "CaseLine$Machine" "state" "I", Cond.fieldLink RX3 66 "CaseLine$Machine" "ran" "I"]
def wsX1_init : List Cond := .code yX1_init cX1_init 3 none :: ((wsX1_init_r1 ++ wsX1_init_r2) ++ wsX10 ++ wsX20 ++ wsX30)
def wsX2_clear : List Cond := .code yX2_clear cX2_clear 1 none :: ([.fieldLink RX2 21 "CaseLine$Faults" "count" "I"] ++ wsX20)
def wsX1_renew_r1 : List Cond := [Cond.fieldLink RX1 29 "CaseLine$Conveyor" "count" "I", Cond.fieldLink RX1 11 "CaseLine$Conveyor" "machines" "[LCaseLine$Machine;", Cond.fieldLink RX1 18 "CaseLine$Conveyor" "faults" "LCaseLine$Faults;", Cond.fieldLink RX1 22 "CaseLine$Conveyor" "laidOn" "[I", Cond.fieldLink RX1 45 "CaseLine$Conveyor" "ticksDone" "I", Cond.fieldLink RX1 48 "CaseLine$Conveyor" "inSupply" "I", Cond.fieldLink RX1 51 "CaseLine$Conveyor" "taken" "I", Cond.fieldLink RX1 54 "CaseLine$Conveyor" "good" "I", Cond.fieldLink RX1 57 "CaseLine$Conveyor" "stopped" "I", Cond.methodLink RX1 33 yX3_renew, Cond.instanceMethod yX3_renew, Cond.selects RX3 yX3_renew yX3_renew, Cond.initialized RX3, Cond.code yX3_renew cX3_renew 1 none, Cond.fieldLink RX3 26 "CaseLine$Machine" "AT_FIRST" "[I", Cond.fieldLink RX3 11 "CaseLine$Machine" "setting" "[I", Cond.methodLink RX3 29 arraycopyName, Cond.native arraycopyName, Cond.static arraycopyName, Cond.initialized "java/lang/System", Cond.fieldLink RX3 35 "CaseLine$Machine" "inGap" "I", Cond.fieldLink RX3 38 "CaseLine$Machine" "working" "Z", Cond.fieldLink RX3 42 "CaseLine$Machine" "holding" "Z", Cond.fieldLink RX3 45 "CaseLine$Machine" "ticksOnUnit" "I"]
def wsX1_renew_r2 : List Cond := [Cond.fieldLink RX3 48 "CaseLine$Machine" "finished" "I", Cond.fieldLink RX3 51 "CaseLine$Machine" "rejected" "I", Cond.fieldLink RX3 54 "CaseLine$Machine" "sampled" "I", Cond.fieldLink RX3 57 "CaseLine$Machine" "unconfirmed" "I", Cond.fieldLink RX3 60 "CaseLine$Machine" "oldestReject" "I", Cond.fieldLink RX3 63 "CaseLine$Machine" "state" "I", Cond.fieldLink RX3 66 "CaseLine$Machine" "ran" "I", Cond.methodLink RX1 36 yX2_clear, Cond.instanceMethod yX2_clear, Cond.selects RX2 yX2_clear yX2_clear, Cond.initialized RX2, Cond.code yX2_clear cX2_clear 1 none, Cond.fieldLink RX2 21 "CaseLine$Faults" "count" "I", Cond.methodLink RX1 39 yJ7_fill_53178, Cond.static yJ7_fill_53178, Cond.initialized RJ7, Cond.code yJ7_fill_53178 cJ7_fill_53178 4 none]
def wsX1_renew : List Cond := .code yX1_renew cX1_renew 4 none :: ((wsX1_renew_r1 ++ wsX1_renew_r2) ++ wsX10 ++ wsX30 ++ wsX20)
def wsX1_machineAt : List Cond := .code yX1_machineAt cX1_machineAt 2 (some (.object "CaseLine$Machine")) :: ([.fieldLink RX1 29 "CaseLine$Conveyor" "count" "I", .fieldLink RX1 11 "CaseLine$Conveyor" "machines" "[LCaseLine$Machine;"] ++ wsX10)
def wsX1_isLast : List Cond := .code yX1_isLast cX1_isLast 2 (some .boolean) :: ([.fieldLink RX1 60 "CaseLine$Machine" "number" "I", .fieldLink RX1 29 "CaseLine$Conveyor" "count" "I"] ++ wsX30 ++ wsX10)
def wsX1_last : List Cond := .code yX1_last cX1_last 1 (some (.object "CaseLine$Machine")) :: ([.fieldLink RX1 29 "CaseLine$Conveyor" "count" "I", .methodLink RX1 63 yX1_machineAt, .instanceMethod yX1_machineAt, .selects RX1 yX1_machineAt yX1_machineAt, .initialized RX1, .code yX1_machineAt cX1_machineAt 2 (some (.object "CaseLine$Machine")), .fieldLink RX1 11 "CaseLine$Conveyor" "machines" "[LCaseLine$Machine;"] ++ wsX10)
def wsX2_stop : List Cond := .code yX2_stop cX2_stop 4 (some .boolean) :: ([.fieldLink RX2 21 "CaseLine$Faults" "count" "I", .fieldLink RX2 11 "CaseLine$Faults" "machineOf" "[I", .fieldLink RX2 15 "CaseLine$Faults" "firstTick" "[I", .fieldLink RX2 18 "CaseLine$Faults" "lastTick" "[I", .static yX6_within, .initialized RX6, .code yX6_within cX6_within 3 (some .boolean)] ++ wsX20)
def wsX3_waitsForWord : List Cond := .code yX3_waitsForWord cX3_waitsForWord 2 (some .boolean) :: ([.fieldLink RX3 57 "CaseLine$Machine" "unconfirmed" "I", .fieldLink RX3 60 "CaseLine$Machine" "oldestReject" "I"] ++ wsX30)
def wsX3_giveOn : List Cond := .code yX3_giveOn cX3_giveOn 1 (some .boolean) :: ([.fieldLink RX3 35 "CaseLine$Machine" "inGap" "I", .fieldLink RX3 11 "CaseLine$Machine" "setting" "[I", .fieldLink RX3 42 "CaseLine$Machine" "holding" "Z"] ++ wsX30)
def wsX1_takeFor : List Cond := .code yX1_takeFor cX1_takeFor 2 (some .boolean) :: ([.fieldLink RX1 81 "CaseLine$Machine" "ahead" "LCaseLine$Machine;", .fieldLink RX1 48 "CaseLine$Conveyor" "inSupply" "I", .fieldLink RX1 51 "CaseLine$Conveyor" "taken" "I", .fieldLink RX1 121 "CaseLine$Machine" "inGap" "I", .fieldLink RX1 104 "CaseLine$Machine" "working" "Z"] ++ wsX30 ++ wsX10)
def wsX3_unitIsFinished : List Cond := .code yX3_unitIsFinished cX3_unitIsFinished 1 (some .boolean) :: ([.fieldLink RX3 45 "CaseLine$Machine" "ticksOnUnit" "I", .fieldLink RX3 11 "CaseLine$Machine" "setting" "[I"] ++ wsX30)
def wsX3_isEach : List Cond := .code yX3_isEach cX3_isEach 2 (some .boolean) :: ([.fieldLink RX3 48 "CaseLine$Machine" "finished" "I"] ++ wsX30)
def wsX3_reject : List Cond := .code yX3_reject cX3_reject 2 none :: ([.fieldLink RX3 51 "CaseLine$Machine" "rejected" "I", .fieldLink RX3 57 "CaseLine$Machine" "unconfirmed" "I", .fieldLink RX3 60 "CaseLine$Machine" "oldestReject" "I"] ++ wsX30)
def wsX3_passes : List Cond := .code yX3_passes cX3_passes 2 (some .boolean) :: ([.fieldLink RX3 38 "CaseLine$Machine" "working" "Z", .fieldLink RX3 45 "CaseLine$Machine" "ticksOnUnit" "I", .fieldLink RX3 48 "CaseLine$Machine" "finished" "I", .fieldLink RX3 11 "CaseLine$Machine" "setting" "[I", .fieldLink RX3 54 "CaseLine$Machine" "sampled" "I", .methodLink RX3 83 yX3_isEach, .instanceMethod yX3_isEach, .selects RX3 yX3_isEach yX3_isEach, .initialized RX3, .code yX3_isEach cX3_isEach 2 (some .boolean), .methodLink RX3 87 yX3_reject, .instanceMethod yX3_reject, .selects RX3 yX3_reject yX3_reject, .code yX3_reject cX3_reject 2 none, .fieldLink RX3 51 "CaseLine$Machine" "rejected" "I", .fieldLink RX3 57 "CaseLine$Machine" "unconfirmed" "I", .fieldLink RX3 60 "CaseLine$Machine" "oldestReject" "I"] ++ wsX30)
def wsX1_finishAt_r1 : List Cond := [Cond.fieldLink RX1 45 "CaseLine$Conveyor" "ticksDone" "I", Cond.fieldLink RX1 54 "CaseLine$Conveyor" "good" "I", Cond.fieldLink RX1 96 "CaseLine$Machine" "holding" "Z", Cond.methodLink RX1 124 yX3_passes, Cond.instanceMethod yX3_passes, Cond.selects RX3 yX3_passes yX3_passes, Cond.initialized RX3, Cond.code yX3_passes cX3_passes 2 (some .boolean), Cond.fieldLink RX3 38 "CaseLine$Machine" "working" "Z", Cond.fieldLink RX3 45 "CaseLine$Machine" "ticksOnUnit" "I", Cond.fieldLink RX3 48 "CaseLine$Machine" "finished" "I", Cond.fieldLink RX3 11 "CaseLine$Machine" "setting" "[I", Cond.fieldLink RX3 54 "CaseLine$Machine" "sampled" "I", Cond.methodLink RX3 83 yX3_isEach, Cond.instanceMethod yX3_isEach, Cond.selects RX3 yX3_isEach yX3_isEach, Cond.code yX3_isEach cX3_isEach 2 (some .boolean), Cond.methodLink RX3 87 yX3_reject, Cond.instanceMethod yX3_reject, Cond.selects RX3 yX3_reject yX3_reject, Cond.code yX3_reject cX3_reject 2 none, Cond.fieldLink RX3 51 "CaseLine$Machine" "rejected" "I", Cond.fieldLink RX3 57 "CaseLine$Machine" "unconfirmed" "I", Cond.fieldLink RX3 60 "CaseLine$Machine" "oldestReject" "I"]
def wsX1_finishAt_r2 : List Cond := [Cond.methodLink RX1 127 yX1_isLast, Cond.instanceMethod yX1_isLast, Cond.selects RX1 yX1_isLast yX1_isLast, Cond.initialized RX1, Cond.code yX1_isLast cX1_isLast 2 (some .boolean), Cond.fieldLink RX1 60 "CaseLine$Machine" "number" "I", Cond.fieldLink RX1 29 "CaseLine$Conveyor" "count" "I"]
def wsX1_finishAt : List Cond := .code yX1_finishAt cX1_finishAt 2 none :: ((wsX1_finishAt_r1 ++ wsX1_finishAt_r2) ++ wsX10 ++ wsX30)
def wsX1_stepOf_r1 : List Cond := [Cond.fieldLink RX1 18 "CaseLine$Conveyor" "faults" "LCaseLine$Faults;", Cond.fieldLink RX1 60 "CaseLine$Machine" "number" "I", Cond.fieldLink RX1 45 "CaseLine$Conveyor" "ticksDone" "I", Cond.fieldLink RX1 96 "CaseLine$Machine" "holding" "Z", Cond.fieldLink RX1 104 "CaseLine$Machine" "working" "Z", Cond.fieldLink RX1 111 "CaseLine$Machine" "ticksOnUnit" "I", Cond.methodLink RX1 88 yX2_stop, Cond.instanceMethod yX2_stop, Cond.selects RX2 yX2_stop yX2_stop, Cond.initialized RX2, Cond.code yX2_stop cX2_stop 4 (some .boolean), Cond.fieldLink RX2 21 "CaseLine$Faults" "count" "I", Cond.fieldLink RX2 11 "CaseLine$Faults" "machineOf" "[I", Cond.fieldLink RX2 15 "CaseLine$Faults" "firstTick" "[I", Cond.fieldLink RX2 18 "CaseLine$Faults" "lastTick" "[I", Cond.static yX6_within, Cond.initialized RX6, Cond.code yX6_within cX6_within 3 (some .boolean), Cond.methodLink RX1 92 yX3_waitsForWord, Cond.instanceMethod yX3_waitsForWord, Cond.selects RX3 yX3_waitsForWord yX3_waitsForWord, Cond.initialized RX3, Cond.code yX3_waitsForWord cX3_waitsForWord 2 (some .boolean), Cond.fieldLink RX3 57 "CaseLine$Machine" "unconfirmed" "I"]
def wsX1_stepOf_r2 : List Cond := [Cond.fieldLink RX3 60 "CaseLine$Machine" "oldestReject" "I", Cond.methodLink RX1 100 yX3_giveOn, Cond.instanceMethod yX3_giveOn, Cond.selects RX3 yX3_giveOn yX3_giveOn, Cond.code yX3_giveOn cX3_giveOn 1 (some .boolean), Cond.fieldLink RX3 35 "CaseLine$Machine" "inGap" "I", Cond.fieldLink RX3 11 "CaseLine$Machine" "setting" "[I", Cond.fieldLink RX3 42 "CaseLine$Machine" "holding" "Z", Cond.methodLink RX1 107 yX1_takeFor, Cond.instanceMethod yX1_takeFor, Cond.selects RX1 yX1_takeFor yX1_takeFor, Cond.initialized RX1, Cond.code yX1_takeFor cX1_takeFor 2 (some .boolean), Cond.fieldLink RX1 81 "CaseLine$Machine" "ahead" "LCaseLine$Machine;", Cond.fieldLink RX1 48 "CaseLine$Conveyor" "inSupply" "I", Cond.fieldLink RX1 51 "CaseLine$Conveyor" "taken" "I", Cond.fieldLink RX1 121 "CaseLine$Machine" "inGap" "I", Cond.methodLink RX1 114 yX3_unitIsFinished, Cond.instanceMethod yX3_unitIsFinished, Cond.selects RX3 yX3_unitIsFinished yX3_unitIsFinished, Cond.code yX3_unitIsFinished cX3_unitIsFinished 1 (some .boolean), Cond.fieldLink RX3 45 "CaseLine$Machine" "ticksOnUnit" "I", Cond.methodLink RX1 117 yX1_finishAt, Cond.instanceMethod yX1_finishAt]
def wsX1_stepOf_r3 : List Cond := [Cond.selects RX1 yX1_finishAt yX1_finishAt, Cond.code yX1_finishAt cX1_finishAt 2 none, Cond.fieldLink RX1 54 "CaseLine$Conveyor" "good" "I", Cond.methodLink RX1 124 yX3_passes, Cond.instanceMethod yX3_passes, Cond.selects RX3 yX3_passes yX3_passes, Cond.code yX3_passes cX3_passes 2 (some .boolean), Cond.fieldLink RX3 38 "CaseLine$Machine" "working" "Z", Cond.fieldLink RX3 48 "CaseLine$Machine" "finished" "I", Cond.fieldLink RX3 54 "CaseLine$Machine" "sampled" "I", Cond.methodLink RX3 83 yX3_isEach, Cond.instanceMethod yX3_isEach, Cond.selects RX3 yX3_isEach yX3_isEach, Cond.code yX3_isEach cX3_isEach 2 (some .boolean), Cond.methodLink RX3 87 yX3_reject, Cond.instanceMethod yX3_reject, Cond.selects RX3 yX3_reject yX3_reject, Cond.code yX3_reject cX3_reject 2 none, Cond.fieldLink RX3 51 "CaseLine$Machine" "rejected" "I", Cond.methodLink RX1 127 yX1_isLast, Cond.instanceMethod yX1_isLast, Cond.selects RX1 yX1_isLast yX1_isLast, Cond.code yX1_isLast cX1_isLast 2 (some .boolean), Cond.fieldLink RX1 29 "CaseLine$Conveyor" "count" "I"]
def wsX1_stepOf : List Cond := .code yX1_stepOf cX1_stepOf 2 (some .int) :: ((wsX1_stepOf_r1 ++ (wsX1_stepOf_r2 ++ wsX1_stepOf_r3)) ++ wsX10 ++ wsX30 ++ wsX20)
def wsX1_layOnCause : List Cond := .code yX1_layOnCause cX1_layOnCause 2 none :: ([.fieldLink RX1 75 "CaseLine$Machine" "state" "I", .fieldLink RX1 57 "CaseLine$Conveyor" "stopped" "I", .fieldLink RX1 81 "CaseLine$Machine" "ahead" "LCaseLine$Machine;", .fieldLink RX1 22 "CaseLine$Conveyor" "laidOn" "[I", .fieldLink RX1 60 "CaseLine$Machine" "number" "I", .methodLink RX1 67 yX1_last, .instanceMethod yX1_last, .selects RX1 yX1_last yX1_last, .initialized RX1, .code yX1_last cX1_last 1 (some (.object "CaseLine$Machine")), .fieldLink RX1 29 "CaseLine$Conveyor" "count" "I", .methodLink RX1 63 yX1_machineAt, .instanceMethod yX1_machineAt, .selects RX1 yX1_machineAt yX1_machineAt, .code yX1_machineAt cX1_machineAt 2 (some (.object "CaseLine$Machine")), .fieldLink RX1 11 "CaseLine$Conveyor" "machines" "[LCaseLine$Machine;", .static yX6_within, .initialized RX6, .code yX6_within cX6_within 3 (some .boolean)] ++ wsX30 ++ wsX10)
def wsX1_step_r1 : List Cond := [Cond.fieldLink RX1 54 "CaseLine$Conveyor" "good" "I", Cond.fieldLink RX1 75 "CaseLine$Machine" "state" "I", Cond.fieldLink RX1 78 "CaseLine$Machine" "ran" "I", Cond.fieldLink RX1 81 "CaseLine$Machine" "ahead" "LCaseLine$Machine;", Cond.fieldLink RX1 45 "CaseLine$Conveyor" "ticksDone" "I", Cond.methodLink RX1 67 yX1_last, Cond.instanceMethod yX1_last, Cond.selects RX1 yX1_last yX1_last, Cond.initialized RX1, Cond.code yX1_last cX1_last 1 (some (.object "CaseLine$Machine")), Cond.fieldLink RX1 29 "CaseLine$Conveyor" "count" "I", Cond.methodLink RX1 63 yX1_machineAt, Cond.instanceMethod yX1_machineAt, Cond.selects RX1 yX1_machineAt yX1_machineAt, Cond.code yX1_machineAt cX1_machineAt 2 (some (.object "CaseLine$Machine")), Cond.fieldLink RX1 11 "CaseLine$Conveyor" "machines" "[LCaseLine$Machine;", Cond.methodLink RX1 71 yX1_stepOf, Cond.instanceMethod yX1_stepOf, Cond.selects RX1 yX1_stepOf yX1_stepOf, Cond.code yX1_stepOf cX1_stepOf 2 (some .int), Cond.fieldLink RX1 18 "CaseLine$Conveyor" "faults" "LCaseLine$Faults;", Cond.fieldLink RX1 60 "CaseLine$Machine" "number" "I", Cond.fieldLink RX1 96 "CaseLine$Machine" "holding" "Z", Cond.fieldLink RX1 104 "CaseLine$Machine" "working" "Z"]
def wsX1_step_r2 : List Cond := [Cond.fieldLink RX1 111 "CaseLine$Machine" "ticksOnUnit" "I", Cond.methodLink RX1 88 yX2_stop, Cond.instanceMethod yX2_stop, Cond.selects RX2 yX2_stop yX2_stop, Cond.initialized RX2, Cond.code yX2_stop cX2_stop 4 (some .boolean), Cond.fieldLink RX2 21 "CaseLine$Faults" "count" "I", Cond.fieldLink RX2 11 "CaseLine$Faults" "machineOf" "[I", Cond.fieldLink RX2 15 "CaseLine$Faults" "firstTick" "[I", Cond.fieldLink RX2 18 "CaseLine$Faults" "lastTick" "[I", Cond.static yX6_within, Cond.initialized RX6, Cond.code yX6_within cX6_within 3 (some .boolean), Cond.methodLink RX1 92 yX3_waitsForWord, Cond.instanceMethod yX3_waitsForWord, Cond.selects RX3 yX3_waitsForWord yX3_waitsForWord, Cond.initialized RX3, Cond.code yX3_waitsForWord cX3_waitsForWord 2 (some .boolean), Cond.fieldLink RX3 57 "CaseLine$Machine" "unconfirmed" "I", Cond.fieldLink RX3 60 "CaseLine$Machine" "oldestReject" "I", Cond.methodLink RX1 100 yX3_giveOn, Cond.instanceMethod yX3_giveOn, Cond.selects RX3 yX3_giveOn yX3_giveOn, Cond.code yX3_giveOn cX3_giveOn 1 (some .boolean)]
def wsX1_step_r3 : List Cond := [Cond.fieldLink RX3 35 "CaseLine$Machine" "inGap" "I", Cond.fieldLink RX3 11 "CaseLine$Machine" "setting" "[I", Cond.fieldLink RX3 42 "CaseLine$Machine" "holding" "Z", Cond.methodLink RX1 107 yX1_takeFor, Cond.instanceMethod yX1_takeFor, Cond.selects RX1 yX1_takeFor yX1_takeFor, Cond.code yX1_takeFor cX1_takeFor 2 (some .boolean), Cond.fieldLink RX1 48 "CaseLine$Conveyor" "inSupply" "I", Cond.fieldLink RX1 51 "CaseLine$Conveyor" "taken" "I", Cond.fieldLink RX1 121 "CaseLine$Machine" "inGap" "I", Cond.methodLink RX1 114 yX3_unitIsFinished, Cond.instanceMethod yX3_unitIsFinished, Cond.selects RX3 yX3_unitIsFinished yX3_unitIsFinished, Cond.code yX3_unitIsFinished cX3_unitIsFinished 1 (some .boolean), Cond.fieldLink RX3 45 "CaseLine$Machine" "ticksOnUnit" "I", Cond.methodLink RX1 117 yX1_finishAt, Cond.instanceMethod yX1_finishAt, Cond.selects RX1 yX1_finishAt yX1_finishAt, Cond.code yX1_finishAt cX1_finishAt 2 none, Cond.methodLink RX1 124 yX3_passes, Cond.instanceMethod yX3_passes, Cond.selects RX3 yX3_passes yX3_passes, Cond.code yX3_passes cX3_passes 2 (some .boolean), Cond.fieldLink RX3 38 "CaseLine$Machine" "working" "Z"]
def wsX1_step_r4 : List Cond := [Cond.fieldLink RX3 48 "CaseLine$Machine" "finished" "I", Cond.fieldLink RX3 54 "CaseLine$Machine" "sampled" "I", Cond.methodLink RX3 83 yX3_isEach, Cond.instanceMethod yX3_isEach, Cond.selects RX3 yX3_isEach yX3_isEach, Cond.code yX3_isEach cX3_isEach 2 (some .boolean), Cond.methodLink RX3 87 yX3_reject, Cond.instanceMethod yX3_reject, Cond.selects RX3 yX3_reject yX3_reject, Cond.code yX3_reject cX3_reject 2 none, Cond.fieldLink RX3 51 "CaseLine$Machine" "rejected" "I", Cond.methodLink RX1 127 yX1_isLast, Cond.instanceMethod yX1_isLast, Cond.selects RX1 yX1_isLast yX1_isLast, Cond.code yX1_isLast cX1_isLast 2 (some .boolean), Cond.methodLink RX1 85 yX1_layOnCause, Cond.instanceMethod yX1_layOnCause, Cond.selects RX1 yX1_layOnCause yX1_layOnCause, Cond.code yX1_layOnCause cX1_layOnCause 2 none, Cond.fieldLink RX1 57 "CaseLine$Conveyor" "stopped" "I", Cond.fieldLink RX1 22 "CaseLine$Conveyor" "laidOn" "[I"]
def wsX1_step : List Cond := .code yX1_step cX1_step 3 (some .boolean) :: ((wsX1_step_r1 ++ (wsX1_step_r2 ++ (wsX1_step_r3 ++ wsX1_step_r4))) ++ wsX10 ++ wsX30 ++ wsX20)
def wsX1_allRejected : List Cond := .code yX1_allRejected cX1_allRejected 3 (some .int) :: ([.fieldLink RX1 136 "CaseLine$Machine" "rejected" "I", .fieldLink RX1 81 "CaseLine$Machine" "ahead" "LCaseLine$Machine;", .methodLink RX1 67 yX1_last, .instanceMethod yX1_last, .selects RX1 yX1_last yX1_last, .initialized RX1, .code yX1_last cX1_last 1 (some (.object "CaseLine$Machine")), .fieldLink RX1 29 "CaseLine$Conveyor" "count" "I", .methodLink RX1 63 yX1_machineAt, .instanceMethod yX1_machineAt, .selects RX1 yX1_machineAt yX1_machineAt, .code yX1_machineAt cX1_machineAt 2 (some (.object "CaseLine$Machine")), .fieldLink RX1 11 "CaseLine$Conveyor" "machines" "[LCaseLine$Machine;"] ++ wsX30 ++ wsX10)
def wsX1_allSampled : List Cond := .code yX1_allSampled cX1_allSampled 3 (some .int) :: ([.fieldLink RX1 139 "CaseLine$Machine" "sampled" "I", .fieldLink RX1 81 "CaseLine$Machine" "ahead" "LCaseLine$Machine;", .methodLink RX1 67 yX1_last, .instanceMethod yX1_last, .selects RX1 yX1_last yX1_last, .initialized RX1, .code yX1_last cX1_last 1 (some (.object "CaseLine$Machine")), .fieldLink RX1 29 "CaseLine$Conveyor" "count" "I", .methodLink RX1 63 yX1_machineAt, .instanceMethod yX1_machineAt, .selects RX1 yX1_machineAt yX1_machineAt, .code yX1_machineAt cX1_machineAt 2 (some (.object "CaseLine$Machine")), .fieldLink RX1 11 "CaseLine$Conveyor" "machines" "[LCaseLine$Machine;"] ++ wsX30 ++ wsX10)
def wsX3_unitsInside : List Cond := .code yX3_unitsInside cX3_unitsInside 1 (some .int) :: ([.fieldLink RX3 38 "CaseLine$Machine" "working" "Z", .fieldLink RX3 42 "CaseLine$Machine" "holding" "Z"] ++ wsX30)
def wsX1_allOnLine : List Cond := .code yX1_allOnLine cX1_allOnLine 3 (some .int) :: ([.fieldLink RX1 121 "CaseLine$Machine" "inGap" "I", .fieldLink RX1 81 "CaseLine$Machine" "ahead" "LCaseLine$Machine;", .methodLink RX1 67 yX1_last, .instanceMethod yX1_last, .selects RX1 yX1_last yX1_last, .initialized RX1, .code yX1_last cX1_last 1 (some (.object "CaseLine$Machine")), .fieldLink RX1 29 "CaseLine$Conveyor" "count" "I", .methodLink RX1 63 yX1_machineAt, .instanceMethod yX1_machineAt, .selects RX1 yX1_machineAt yX1_machineAt, .code yX1_machineAt cX1_machineAt 2 (some (.object "CaseLine$Machine")), .fieldLink RX1 11 "CaseLine$Conveyor" "machines" "[LCaseLine$Machine;", .methodLink RX1 142 yX3_unitsInside, .instanceMethod yX3_unitsInside, .selects RX3 yX3_unitsInside yX3_unitsInside, .initialized RX3, .code yX3_unitsInside cX3_unitsInside 1 (some .int), .fieldLink RX3 38 "CaseLine$Machine" "working" "Z", .fieldLink RX3 42 "CaseLine$Machine" "holding" "Z"] ++ wsX30 ++ wsX10)
def wsX2_add : List Cond := .code yX2_add cX2_add 4 (some .int) :: ([.fieldLink RX2 21 "CaseLine$Faults" "count" "I", .fieldLink RX2 11 "CaseLine$Faults" "machineOf" "[I", .fieldLink RX2 15 "CaseLine$Faults" "firstTick" "[I", .fieldLink RX2 18 "CaseLine$Faults" "lastTick" "[I"] ++ wsX20)
def wsX3_mayBeSet : List Cond := .code yX3_mayBeSet cX3_mayBeSet 3 (some .boolean) :: ([.fieldLink RX3 73 "CaseLine$Machine" "LEAST" "[I", .fieldLink RX3 76 "CaseLine$Machine" "MOST" "[I", .static yX6_within, .initialized RX6, .code yX6_within cX6_within 3 (some .boolean)])
def wsX3_put : List Cond := .code yX3_put cX3_put 4 (some .int) :: ([.fieldLink RX3 11 "CaseLine$Machine" "setting" "[I", .methodLink RX3 79 yX3_mayBeSet, .instanceMethod yX3_mayBeSet, .selects RX3 yX3_mayBeSet yX3_mayBeSet, .initialized RX3, .code yX3_mayBeSet cX3_mayBeSet 3 (some .boolean), .fieldLink RX3 73 "CaseLine$Machine" "LEAST" "[I", .fieldLink RX3 76 "CaseLine$Machine" "MOST" "[I", .static yX6_within, .initialized RX6, .code yX6_within cX6_within 3 (some .boolean)] ++ wsX30)
def wsX4_init : List Cond := .code yX4_init cX4_init 1 none :: ([.methodLink RX4 5 objectInit, .instanceMethod objectInit, .code objectInit ⟨#[0xb1]⟩ 1 none, .arrayClass .int, .fieldLink RX4 11 "CaseLine$Plan" "most" "[I", .fieldLink RX4 15 "CaseLine$Plan" "place" "[I", .fieldLink RX4 18 "CaseLine$Plan" "part" "[I", .fieldLink RX4 21 "CaseLine$Plan" "owner" "[I"] ++ wsX40)
def wsX4_fits : List Cond := .code yX4_fits cX4_fits 4 (some .boolean) :: ([])
def wsX4_mostOf : List Cond := .code yX4_mostOf cX4_mostOf 3 (some .int) :: ([.fieldLink RX4 11 "CaseLine$Plan" "most" "[I"] ++ wsX40)
def wsX4_byUprightCut : List Cond := .code yX4_byUprightCut cX4_byUprightCut 4 (some .int) :: ([.methodLink RX4 56 yX4_mostOf, .instanceMethod yX4_mostOf, .selects RX4 yX4_mostOf yX4_mostOf, .initialized RX4, .code yX4_mostOf cX4_mostOf 3 (some .int), .fieldLink RX4 11 "CaseLine$Plan" "most" "[I"] ++ wsX40)
def wsX4_byLevelCut : List Cond := .code yX4_byLevelCut cX4_byLevelCut 4 (some .int) :: ([.methodLink RX4 56 yX4_mostOf, .instanceMethod yX4_mostOf, .selects RX4 yX4_mostOf yX4_mostOf, .initialized RX4, .code yX4_mostOf cX4_mostOf 3 (some .int), .fieldLink RX4 11 "CaseLine$Plan" "most" "[I"] ++ wsX40)
def wsX4_byPinwheel : List Cond := .code yX4_byPinwheel cX4_byPinwheel 7 (some .int) :: ([.methodLink RX4 56 yX4_mostOf, .instanceMethod yX4_mostOf, .selects RX4 yX4_mostOf yX4_mostOf, .initialized RX4, .code yX4_mostOf cX4_mostOf 3 (some .int), .fieldLink RX4 11 "CaseLine$Plan" "most" "[I"] ++ wsX40)
def wsX4_mostByPinwheel : List Cond := .code yX4_mostByPinwheel cX4_mostByPinwheel 8 (some .int) :: ([.fieldLink RX4 43 "CaseLine$Plan" "narrow" "I", .methodLink RX4 73 Lib.Math.max.name, .static Lib.Math.max.name, .initialized "java/lang/Math", .code Lib.Math.max.name Lib.Math.max.code 2 (some .int), .methodLink RX4 82 yX4_byPinwheel, .instanceMethod yX4_byPinwheel, .selects RX4 yX4_byPinwheel yX4_byPinwheel, .initialized RX4, .code yX4_byPinwheel cX4_byPinwheel 7 (some .int), .methodLink RX4 56 yX4_mostOf, .instanceMethod yX4_mostOf, .selects RX4 yX4_mostOf yX4_mostOf, .code yX4_mostOf cX4_mostOf 3 (some .int), .fieldLink RX4 11 "CaseLine$Plan" "most" "[I"] ++ wsX40)
def wsX4_mostIn_r1 : List Cond := [Cond.fieldLink RX4 31 "CaseLine$Plan" "a" "I", Cond.fieldLink RX4 34 "CaseLine$Plan" "b" "I", Cond.methodLink RX4 73 Lib.Math.max.name, Cond.static Lib.Math.max.name, Cond.initialized "java/lang/Math", Cond.code Lib.Math.max.name Lib.Math.max.code 2 (some .int), Cond.methodLink RX4 65 yX4_fits, Cond.static yX4_fits, Cond.initialized RX4, Cond.code yX4_fits cX4_fits 4 (some .boolean), Cond.methodLink RX4 69 yX4_byUprightCut, Cond.instanceMethod yX4_byUprightCut, Cond.selects RX4 yX4_byUprightCut yX4_byUprightCut, Cond.code yX4_byUprightCut cX4_byUprightCut 4 (some .int), Cond.methodLink RX4 56 yX4_mostOf, Cond.instanceMethod yX4_mostOf, Cond.selects RX4 yX4_mostOf yX4_mostOf, Cond.code yX4_mostOf cX4_mostOf 3 (some .int), Cond.fieldLink RX4 11 "CaseLine$Plan" "most" "[I", Cond.methodLink RX4 76 yX4_byLevelCut, Cond.instanceMethod yX4_byLevelCut, Cond.selects RX4 yX4_byLevelCut yX4_byLevelCut, Cond.code yX4_byLevelCut cX4_byLevelCut 4 (some .int), Cond.methodLink RX4 79 yX4_mostByPinwheel]
def wsX4_mostIn_r2 : List Cond := [Cond.instanceMethod yX4_mostByPinwheel, Cond.selects RX4 yX4_mostByPinwheel yX4_mostByPinwheel, Cond.code yX4_mostByPinwheel cX4_mostByPinwheel 8 (some .int), Cond.fieldLink RX4 43 "CaseLine$Plan" "narrow" "I", Cond.methodLink RX4 82 yX4_byPinwheel, Cond.instanceMethod yX4_byPinwheel, Cond.selects RX4 yX4_byPinwheel yX4_byPinwheel, Cond.code yX4_byPinwheel cX4_byPinwheel 7 (some .int)]
def wsX4_mostIn : List Cond := .code yX4_mostIn cX4_mostIn 5 (some .int) :: ((wsX4_mostIn_r1 ++ wsX4_mostIn_r2) ++ wsX40)
def wsX4_findMost_r1 : List Cond := [Cond.fieldLink RX4 24 "CaseLine$Plan" "x" "I", Cond.fieldLink RX4 28 "CaseLine$Plan" "y" "I", Cond.fieldLink RX4 11 "CaseLine$Plan" "most" "[I", Cond.methodLink RX4 62 yX4_mostIn, Cond.instanceMethod yX4_mostIn, Cond.selects RX4 yX4_mostIn yX4_mostIn, Cond.initialized RX4, Cond.code yX4_mostIn cX4_mostIn 5 (some .int), Cond.fieldLink RX4 31 "CaseLine$Plan" "a" "I", Cond.fieldLink RX4 34 "CaseLine$Plan" "b" "I", Cond.methodLink RX4 73 Lib.Math.max.name, Cond.static Lib.Math.max.name, Cond.initialized "java/lang/Math", Cond.code Lib.Math.max.name Lib.Math.max.code 2 (some .int), Cond.methodLink RX4 65 yX4_fits, Cond.static yX4_fits, Cond.code yX4_fits cX4_fits 4 (some .boolean), Cond.methodLink RX4 69 yX4_byUprightCut, Cond.instanceMethod yX4_byUprightCut, Cond.selects RX4 yX4_byUprightCut yX4_byUprightCut, Cond.code yX4_byUprightCut cX4_byUprightCut 4 (some .int), Cond.methodLink RX4 56 yX4_mostOf, Cond.instanceMethod yX4_mostOf, Cond.selects RX4 yX4_mostOf yX4_mostOf]
def wsX4_findMost_r2 : List Cond := [Cond.code yX4_mostOf cX4_mostOf 3 (some .int), Cond.methodLink RX4 76 yX4_byLevelCut, Cond.instanceMethod yX4_byLevelCut, Cond.selects RX4 yX4_byLevelCut yX4_byLevelCut, Cond.code yX4_byLevelCut cX4_byLevelCut 4 (some .int), Cond.methodLink RX4 79 yX4_mostByPinwheel, Cond.instanceMethod yX4_mostByPinwheel, Cond.selects RX4 yX4_mostByPinwheel yX4_mostByPinwheel, Cond.code yX4_mostByPinwheel cX4_mostByPinwheel 8 (some .int), Cond.fieldLink RX4 43 "CaseLine$Plan" "narrow" "I", Cond.methodLink RX4 82 yX4_byPinwheel, Cond.instanceMethod yX4_byPinwheel, Cond.selects RX4 yX4_byPinwheel yX4_byPinwheel, Cond.code yX4_byPinwheel cX4_byPinwheel 7 (some .int)]
def wsX4_findMost : List Cond := .code yX4_findMost cX4_findMost 3 none :: ((wsX4_findMost_r1 ++ wsX4_findMost_r2) ++ wsX40)
def wsX4_putPart : List Cond := .code yX4_putPart cX4_putPart 6 none :: ([.fieldLink RX4 86 "CaseLine$Plan" "parts" "I", .fieldLink RX4 18 "CaseLine$Plan" "part" "[I"] ++ wsX40)
def wsX4_layCase : List Cond := .code yX4_layCase cX4_layCase 5 none :: ([.fieldLink RX4 59 "CaseLine$Plan" "places" "I", .fieldLink RX4 15 "CaseLine$Plan" "place" "[I", .fieldLink RX4 31 "CaseLine$Plan" "a" "I", .fieldLink RX4 34 "CaseLine$Plan" "b" "I"] ++ wsX40)
def wsX4_cutUpright : List Cond := .code yX4_cutUpright cX4_cutUpright 6 (some .boolean) :: ([.methodLink RX4 69 yX4_byUprightCut, .instanceMethod yX4_byUprightCut, .selects RX4 yX4_byUprightCut yX4_byUprightCut, .initialized RX4, .code yX4_byUprightCut cX4_byUprightCut 4 (some .int), .methodLink RX4 56 yX4_mostOf, .instanceMethod yX4_mostOf, .selects RX4 yX4_mostOf yX4_mostOf, .code yX4_mostOf cX4_mostOf 3 (some .int), .fieldLink RX4 11 "CaseLine$Plan" "most" "[I", .methodLink RX4 89 yX4_putPart, .instanceMethod yX4_putPart, .selects RX4 yX4_putPart yX4_putPart, .code yX4_putPart cX4_putPart 6 none, .fieldLink RX4 86 "CaseLine$Plan" "parts" "I", .fieldLink RX4 18 "CaseLine$Plan" "part" "[I"] ++ wsX40)
def wsX4_cutLevel : List Cond := .code yX4_cutLevel cX4_cutLevel 6 (some .boolean) :: ([.methodLink RX4 76 yX4_byLevelCut, .instanceMethod yX4_byLevelCut, .selects RX4 yX4_byLevelCut yX4_byLevelCut, .initialized RX4, .code yX4_byLevelCut cX4_byLevelCut 4 (some .int), .methodLink RX4 56 yX4_mostOf, .instanceMethod yX4_mostOf, .selects RX4 yX4_mostOf yX4_mostOf, .code yX4_mostOf cX4_mostOf 3 (some .int), .fieldLink RX4 11 "CaseLine$Plan" "most" "[I", .methodLink RX4 89 yX4_putPart, .instanceMethod yX4_putPart, .selects RX4 yX4_putPart yX4_putPart, .code yX4_putPart cX4_putPart 6 none, .fieldLink RX4 86 "CaseLine$Plan" "parts" "I", .fieldLink RX4 18 "CaseLine$Plan" "part" "[I"] ++ wsX40)
def wsX4_cutPinwheel : List Cond := .code yX4_cutPinwheel cX4_cutPinwheel 9 none :: ([.fieldLink RX4 43 "CaseLine$Plan" "narrow" "I", .methodLink RX4 82 yX4_byPinwheel, .instanceMethod yX4_byPinwheel, .selects RX4 yX4_byPinwheel yX4_byPinwheel, .initialized RX4, .code yX4_byPinwheel cX4_byPinwheel 7 (some .int), .methodLink RX4 56 yX4_mostOf, .instanceMethod yX4_mostOf, .selects RX4 yX4_mostOf yX4_mostOf, .code yX4_mostOf cX4_mostOf 3 (some .int), .fieldLink RX4 11 "CaseLine$Plan" "most" "[I", .methodLink RX4 89 yX4_putPart, .instanceMethod yX4_putPart, .selects RX4 yX4_putPart yX4_putPart, .code yX4_putPart cX4_putPart 6 none, .fieldLink RX4 86 "CaseLine$Plan" "parts" "I", .fieldLink RX4 18 "CaseLine$Plan" "part" "[I"] ++ wsX40)
def wsX4_layPart_r1 : List Cond := [Cond.fieldLink RX4 31 "CaseLine$Plan" "a" "I", Cond.fieldLink RX4 34 "CaseLine$Plan" "b" "I", Cond.methodLink RX4 56 yX4_mostOf, Cond.instanceMethod yX4_mostOf, Cond.selects RX4 yX4_mostOf yX4_mostOf, Cond.initialized RX4, Cond.code yX4_mostOf cX4_mostOf 3 (some .int), Cond.fieldLink RX4 11 "CaseLine$Plan" "most" "[I", Cond.methodLink RX4 65 yX4_fits, Cond.static yX4_fits, Cond.code yX4_fits cX4_fits 4 (some .boolean), Cond.methodLink RX4 96 yX4_layCase, Cond.instanceMethod yX4_layCase, Cond.selects RX4 yX4_layCase yX4_layCase, Cond.code yX4_layCase cX4_layCase 5 none, Cond.fieldLink RX4 59 "CaseLine$Plan" "places" "I", Cond.fieldLink RX4 15 "CaseLine$Plan" "place" "[I", Cond.methodLink RX4 100 yX4_cutUpright, Cond.instanceMethod yX4_cutUpright, Cond.selects RX4 yX4_cutUpright yX4_cutUpright, Cond.code yX4_cutUpright cX4_cutUpright 6 (some .boolean), Cond.methodLink RX4 69 yX4_byUprightCut, Cond.instanceMethod yX4_byUprightCut, Cond.selects RX4 yX4_byUprightCut yX4_byUprightCut]
def wsX4_layPart_r2 : List Cond := [Cond.code yX4_byUprightCut cX4_byUprightCut 4 (some .int), Cond.methodLink RX4 89 yX4_putPart, Cond.instanceMethod yX4_putPart, Cond.selects RX4 yX4_putPart yX4_putPart, Cond.code yX4_putPart cX4_putPart 6 none, Cond.fieldLink RX4 86 "CaseLine$Plan" "parts" "I", Cond.fieldLink RX4 18 "CaseLine$Plan" "part" "[I", Cond.methodLink RX4 103 yX4_cutLevel, Cond.instanceMethod yX4_cutLevel, Cond.selects RX4 yX4_cutLevel yX4_cutLevel, Cond.code yX4_cutLevel cX4_cutLevel 6 (some .boolean), Cond.methodLink RX4 76 yX4_byLevelCut, Cond.instanceMethod yX4_byLevelCut, Cond.selects RX4 yX4_byLevelCut yX4_byLevelCut, Cond.code yX4_byLevelCut cX4_byLevelCut 4 (some .int), Cond.methodLink RX4 106 yX4_cutPinwheel, Cond.instanceMethod yX4_cutPinwheel, Cond.selects RX4 yX4_cutPinwheel yX4_cutPinwheel, Cond.code yX4_cutPinwheel cX4_cutPinwheel 9 none, Cond.fieldLink RX4 43 "CaseLine$Plan" "narrow" "I", Cond.methodLink RX4 82 yX4_byPinwheel, Cond.instanceMethod yX4_byPinwheel, Cond.selects RX4 yX4_byPinwheel yX4_byPinwheel, Cond.code yX4_byPinwheel cX4_byPinwheel 7 (some .int)]
def wsX4_layPart : List Cond := .code yX4_layPart cX4_layPart 6 none :: ((wsX4_layPart_r1 ++ wsX4_layPart_r2) ++ wsX40)
def wsX4_layCases_r1 : List Cond := [Cond.fieldLink RX4 59 "CaseLine$Plan" "places" "I", Cond.fieldLink RX4 86 "CaseLine$Plan" "parts" "I", Cond.fieldLink RX4 24 "CaseLine$Plan" "x" "I", Cond.fieldLink RX4 28 "CaseLine$Plan" "y" "I", Cond.fieldLink RX4 18 "CaseLine$Plan" "part" "[I", Cond.methodLink RX4 89 yX4_putPart, Cond.instanceMethod yX4_putPart, Cond.selects RX4 yX4_putPart yX4_putPart, Cond.initialized RX4, Cond.code yX4_putPart cX4_putPart 6 none, Cond.methodLink RX4 93 yX4_layPart, Cond.instanceMethod yX4_layPart, Cond.selects RX4 yX4_layPart yX4_layPart, Cond.code yX4_layPart cX4_layPart 6 none, Cond.fieldLink RX4 31 "CaseLine$Plan" "a" "I", Cond.fieldLink RX4 34 "CaseLine$Plan" "b" "I", Cond.methodLink RX4 56 yX4_mostOf, Cond.instanceMethod yX4_mostOf, Cond.selects RX4 yX4_mostOf yX4_mostOf, Cond.code yX4_mostOf cX4_mostOf 3 (some .int), Cond.fieldLink RX4 11 "CaseLine$Plan" "most" "[I", Cond.methodLink RX4 65 yX4_fits, Cond.static yX4_fits, Cond.code yX4_fits cX4_fits 4 (some .boolean)]
def wsX4_layCases_r2 : List Cond := [Cond.methodLink RX4 96 yX4_layCase, Cond.instanceMethod yX4_layCase, Cond.selects RX4 yX4_layCase yX4_layCase, Cond.code yX4_layCase cX4_layCase 5 none, Cond.fieldLink RX4 15 "CaseLine$Plan" "place" "[I", Cond.methodLink RX4 100 yX4_cutUpright, Cond.instanceMethod yX4_cutUpright, Cond.selects RX4 yX4_cutUpright yX4_cutUpright, Cond.code yX4_cutUpright cX4_cutUpright 6 (some .boolean), Cond.methodLink RX4 69 yX4_byUprightCut, Cond.instanceMethod yX4_byUprightCut, Cond.selects RX4 yX4_byUprightCut yX4_byUprightCut, Cond.code yX4_byUprightCut cX4_byUprightCut 4 (some .int), Cond.methodLink RX4 103 yX4_cutLevel, Cond.instanceMethod yX4_cutLevel, Cond.selects RX4 yX4_cutLevel yX4_cutLevel, Cond.code yX4_cutLevel cX4_cutLevel 6 (some .boolean), Cond.methodLink RX4 76 yX4_byLevelCut, Cond.instanceMethod yX4_byLevelCut, Cond.selects RX4 yX4_byLevelCut yX4_byLevelCut, Cond.code yX4_byLevelCut cX4_byLevelCut 4 (some .int), Cond.methodLink RX4 106 yX4_cutPinwheel, Cond.instanceMethod yX4_cutPinwheel, Cond.selects RX4 yX4_cutPinwheel yX4_cutPinwheel]
def wsX4_layCases_r3 : List Cond := [Cond.code yX4_cutPinwheel cX4_cutPinwheel 9 none, Cond.fieldLink RX4 43 "CaseLine$Plan" "narrow" "I", Cond.methodLink RX4 82 yX4_byPinwheel, Cond.instanceMethod yX4_byPinwheel, Cond.selects RX4 yX4_byPinwheel yX4_byPinwheel, Cond.code yX4_byPinwheel cX4_byPinwheel 7 (some .int)]
def wsX4_layCases : List Cond := .code yX4_layCases cX4_layCases 3 none :: ((wsX4_layCases_r1 ++ (wsX4_layCases_r2 ++ wsX4_layCases_r3)) ++ wsX40)
def wsX4_make_r1 : List Cond := [Cond.fieldLink RX4 24 "CaseLine$Plan" "x" "I", Cond.fieldLink RX4 28 "CaseLine$Plan" "y" "I", Cond.fieldLink RX4 31 "CaseLine$Plan" "a" "I", Cond.fieldLink RX4 34 "CaseLine$Plan" "b" "I", Cond.methodLink RX4 37 Lib.Math.min.name, Cond.static Lib.Math.min.name, Cond.initialized "java/lang/Math", Cond.code Lib.Math.min.name Lib.Math.min.code 2 (some .int), Cond.fieldLink RX4 43 "CaseLine$Plan" "narrow" "I", Cond.fieldLink RX4 46 "CaseLine$Plan" "made" "Z", Cond.methodLink RX4 50 yX4_findMost, Cond.instanceMethod yX4_findMost, Cond.selects RX4 yX4_findMost yX4_findMost, Cond.initialized RX4, Cond.code yX4_findMost cX4_findMost 3 none, Cond.fieldLink RX4 11 "CaseLine$Plan" "most" "[I", Cond.methodLink RX4 62 yX4_mostIn, Cond.instanceMethod yX4_mostIn, Cond.selects RX4 yX4_mostIn yX4_mostIn, Cond.code yX4_mostIn cX4_mostIn 5 (some .int), Cond.methodLink RX4 73 Lib.Math.max.name, Cond.static Lib.Math.max.name, Cond.code Lib.Math.max.name Lib.Math.max.code 2 (some .int), Cond.methodLink RX4 65 yX4_fits]
def wsX4_make_r2 : List Cond := [Cond.static yX4_fits, Cond.code yX4_fits cX4_fits 4 (some .boolean), Cond.methodLink RX4 69 yX4_byUprightCut, Cond.instanceMethod yX4_byUprightCut, Cond.selects RX4 yX4_byUprightCut yX4_byUprightCut, Cond.code yX4_byUprightCut cX4_byUprightCut 4 (some .int), Cond.methodLink RX4 56 yX4_mostOf, Cond.instanceMethod yX4_mostOf, Cond.selects RX4 yX4_mostOf yX4_mostOf, Cond.code yX4_mostOf cX4_mostOf 3 (some .int), Cond.methodLink RX4 76 yX4_byLevelCut, Cond.instanceMethod yX4_byLevelCut, Cond.selects RX4 yX4_byLevelCut yX4_byLevelCut, Cond.code yX4_byLevelCut cX4_byLevelCut 4 (some .int), Cond.methodLink RX4 79 yX4_mostByPinwheel, Cond.instanceMethod yX4_mostByPinwheel, Cond.selects RX4 yX4_mostByPinwheel yX4_mostByPinwheel, Cond.code yX4_mostByPinwheel cX4_mostByPinwheel 8 (some .int), Cond.methodLink RX4 82 yX4_byPinwheel, Cond.instanceMethod yX4_byPinwheel, Cond.selects RX4 yX4_byPinwheel yX4_byPinwheel, Cond.code yX4_byPinwheel cX4_byPinwheel 7 (some .int), Cond.methodLink RX4 53 yX4_layCases, Cond.instanceMethod yX4_layCases]
def wsX4_make_r3 : List Cond := [Cond.selects RX4 yX4_layCases yX4_layCases, Cond.code yX4_layCases cX4_layCases 3 none, Cond.fieldLink RX4 59 "CaseLine$Plan" "places" "I", Cond.fieldLink RX4 86 "CaseLine$Plan" "parts" "I", Cond.fieldLink RX4 18 "CaseLine$Plan" "part" "[I", Cond.methodLink RX4 89 yX4_putPart, Cond.instanceMethod yX4_putPart, Cond.selects RX4 yX4_putPart yX4_putPart, Cond.code yX4_putPart cX4_putPart 6 none, Cond.methodLink RX4 93 yX4_layPart, Cond.instanceMethod yX4_layPart, Cond.selects RX4 yX4_layPart yX4_layPart, Cond.code yX4_layPart cX4_layPart 6 none, Cond.methodLink RX4 96 yX4_layCase, Cond.instanceMethod yX4_layCase, Cond.selects RX4 yX4_layCase yX4_layCase, Cond.code yX4_layCase cX4_layCase 5 none, Cond.fieldLink RX4 15 "CaseLine$Plan" "place" "[I", Cond.methodLink RX4 100 yX4_cutUpright, Cond.instanceMethod yX4_cutUpright, Cond.selects RX4 yX4_cutUpright yX4_cutUpright, Cond.code yX4_cutUpright cX4_cutUpright 6 (some .boolean), Cond.methodLink RX4 103 yX4_cutLevel, Cond.instanceMethod yX4_cutLevel]
def wsX4_make_r4 : List Cond := [Cond.selects RX4 yX4_cutLevel yX4_cutLevel, Cond.code yX4_cutLevel cX4_cutLevel 6 (some .boolean), Cond.methodLink RX4 106 yX4_cutPinwheel, Cond.instanceMethod yX4_cutPinwheel, Cond.selects RX4 yX4_cutPinwheel yX4_cutPinwheel, Cond.code yX4_cutPinwheel cX4_cutPinwheel 9 none]
def wsX4_make : List Cond := .code yX4_make cX4_make 5 (some .int) :: ((wsX4_make_r1 ++ (wsX4_make_r2 ++ (wsX4_make_r3 ++ wsX4_make_r4))) ++ wsX40)
def wsX4_numberOf : List Cond := .code yX4_numberOf cX4_numberOf 3 (some .int) :: ([.fieldLink RX4 59 "CaseLine$Plan" "places" "I", .fieldLink RX4 15 "CaseLine$Plan" "place" "[I"] ++ wsX40)
def wsX4_isSquare : List Cond := .code yX4_isSquare cX4_isSquare 2 (some .boolean) :: ([.static yX6_within, .initialized RX6, .code yX6_within cX6_within 3 (some .boolean)])
def wsX4_markOwners : List Cond := .code yX4_markOwners cX4_markOwners 6 none :: ([.fieldLink RX4 21 "CaseLine$Plan" "owner" "[I", .fieldLink RX4 59 "CaseLine$Plan" "places" "I", .methodLink RX4 116 yJ7_fill_53178, .static yJ7_fill_53178, .initialized RJ7, .code yJ7_fill_53178 cJ7_fill_53178 4 none, .methodLink RX4 122 yX4_numberOf, .instanceMethod yX4_numberOf, .selects RX4 yX4_numberOf yX4_numberOf, .initialized RX4, .code yX4_numberOf cX4_numberOf 3 (some .int), .fieldLink RX4 15 "CaseLine$Plan" "place" "[I", .methodLink RX4 125 yX4_isSquare, .static yX4_isSquare, .code yX4_isSquare cX4_isSquare 2 (some .boolean), .static yX6_within, .initialized RX6, .code yX6_within cX6_within 3 (some .boolean)] ++ wsX40)
def wsX4_ownerOf : List Cond := .code yX4_ownerOf cX4_ownerOf 3 (some .int) :: ([.fieldLink RX4 21 "CaseLine$Plan" "owner" "[I", .methodLink RX4 125 yX4_isSquare, .static yX4_isSquare, .initialized RX4, .code yX4_isSquare cX4_isSquare 2 (some .boolean), .static yX6_within, .initialized RX6, .code yX6_within cX6_within 3 (some .boolean)] ++ wsX40)
def wsX4_liesOnTwo : List Cond := .code yX4_liesOnTwo cX4_liesOnTwo 8 (some .boolean) :: ([.fieldLink RX4 24 "CaseLine$Plan" "x" "I", .fieldLink RX4 28 "CaseLine$Plan" "y" "I", .methodLink RX4 122 yX4_numberOf, .instanceMethod yX4_numberOf, .selects RX4 yX4_numberOf yX4_numberOf, .initialized RX4, .code yX4_numberOf cX4_numberOf 3 (some .int), .fieldLink RX4 59 "CaseLine$Plan" "places" "I", .fieldLink RX4 15 "CaseLine$Plan" "place" "[I", .methodLink RX4 129 yX4_ownerOf, .instanceMethod yX4_ownerOf, .selects RX4 yX4_ownerOf yX4_ownerOf, .code yX4_ownerOf cX4_ownerOf 3 (some .int), .fieldLink RX4 21 "CaseLine$Plan" "owner" "[I", .methodLink RX4 125 yX4_isSquare, .static yX4_isSquare, .code yX4_isSquare cX4_isSquare 2 (some .boolean), .static yX6_within, .initialized RX6, .code yX6_within cX6_within 3 (some .boolean)] ++ wsX40)
def wsX4_holding_r1 : List Cond := [Cond.fieldLink RX4 59 "CaseLine$Plan" "places" "I", Cond.methodLink RX4 109 yX4_markOwners, Cond.instanceMethod yX4_markOwners, Cond.selects RX4 yX4_markOwners yX4_markOwners, Cond.initialized RX4, Cond.code yX4_markOwners cX4_markOwners 6 none, Cond.fieldLink RX4 21 "CaseLine$Plan" "owner" "[I", Cond.methodLink RX4 116 yJ7_fill_53178, Cond.static yJ7_fill_53178, Cond.initialized RJ7, Cond.code yJ7_fill_53178 cJ7_fill_53178 4 none, Cond.methodLink RX4 122 yX4_numberOf, Cond.instanceMethod yX4_numberOf, Cond.selects RX4 yX4_numberOf yX4_numberOf, Cond.code yX4_numberOf cX4_numberOf 3 (some .int), Cond.fieldLink RX4 15 "CaseLine$Plan" "place" "[I", Cond.methodLink RX4 125 yX4_isSquare, Cond.static yX4_isSquare, Cond.code yX4_isSquare cX4_isSquare 2 (some .boolean), Cond.static yX6_within, Cond.initialized RX6, Cond.code yX6_within cX6_within 3 (some .boolean), Cond.methodLink RX4 112 yX4_liesOnTwo, Cond.instanceMethod yX4_liesOnTwo]
def wsX4_holding_r2 : List Cond := [Cond.selects RX4 yX4_liesOnTwo yX4_liesOnTwo, Cond.code yX4_liesOnTwo cX4_liesOnTwo 8 (some .boolean), Cond.fieldLink RX4 24 "CaseLine$Plan" "x" "I", Cond.fieldLink RX4 28 "CaseLine$Plan" "y" "I", Cond.methodLink RX4 129 yX4_ownerOf, Cond.instanceMethod yX4_ownerOf, Cond.selects RX4 yX4_ownerOf yX4_ownerOf, Cond.code yX4_ownerOf cX4_ownerOf 3 (some .int)]
def wsX4_holding : List Cond := .code yX4_holding cX4_holding 3 (some .int) :: ((wsX4_holding_r1 ++ wsX4_holding_r2) ++ wsX40)
def wsX5_init : List Cond := .code yX5_init cX5_init 1 none :: ([.methodLink RX5 5 objectInit, .instanceMethod objectInit, .code objectInit ⟨#[0xb1]⟩ 1 none, .arrayClass .int, .fieldLink RX5 11 "CaseLine$Tours" "minutesOf" "[I", .fieldLink RX5 15 "CaseLine$Tours" "stainOf" "[I", .fieldLink RX5 18 "CaseLine$Tours" "rest" "[I", .methodLink RX5 21 yJ7_fill_53178, .static yJ7_fill_53178, .initialized RJ7, .code yJ7_fill_53178 cJ7_fill_53178 4 none] ++ wsX50)
def wsX5_putChange : List Cond := .code yX5_putChange cX5_putChange 5 (some .int) :: ([.fieldLink RX5 11 "CaseLine$Tours" "minutesOf" "[I"] ++ wsX50)
def wsX5_putStain : List Cond := .code yX5_putStain cX5_putStain 4 (some .int) :: ([.fieldLink RX5 15 "CaseLine$Tours" "stainOf" "[I"] ++ wsX50)
def wsX5_isIn : List Cond := .code yX5_isIn cX5_isIn 2 (some .boolean) :: ([])
def wsX6_isKind : List Cond := .code yX6_isKind cX6_isKind 1 (some .boolean) :: ([])
def wsX5_minutes : List Cond := .code yX5_minutes cX5_minutes 4 (some .int) :: ([.fieldLink RX5 15 "CaseLine$Tours" "stainOf" "[I", .fieldLink RX5 31 "CaseLine$Tours" "cleaning" "I", .fieldLink RX5 11 "CaseLine$Tours" "minutesOf" "[I", .static yX6_isKind, .initialized RX6, .code yX6_isKind cX6_isKind 1 (some .boolean)] ++ wsX50)
def wsX5_restOf : List Cond := .code yX5_restOf cX5_restOf 3 (some .int) :: ([.fieldLink RX5 18 "CaseLine$Tours" "rest" "[I", .static yX6_within, .initialized RX6, .code yX6_within cX6_within 3 (some .boolean)] ++ wsX50)
def wsX5_minutesBy : List Cond := .code yX5_minutesBy cX5_minutesBy 4 (some .int) :: ([.methodLink RX5 52 yX5_minutes, .instanceMethod yX5_minutes, .selects RX5 yX5_minutes yX5_minutes, .initialized RX5, .code yX5_minutes cX5_minutes 4 (some .int), .fieldLink RX5 15 "CaseLine$Tours" "stainOf" "[I", .fieldLink RX5 31 "CaseLine$Tours" "cleaning" "I", .fieldLink RX5 11 "CaseLine$Tours" "minutesOf" "[I", .static yX6_isKind, .initialized RX6, .code yX6_isKind cX6_isKind 1 (some .boolean), .methodLink RX5 42 yX5_restOf, .instanceMethod yX5_restOf, .selects RX5 yX5_restOf yX5_restOf, .code yX5_restOf cX5_restOf 3 (some .int), .fieldLink RX5 18 "CaseLine$Tours" "rest" "[I", .static yX6_within, .code yX6_within cX6_within 3 (some .boolean)] ++ wsX50)
def wsX5_nextKind_r1 : List Cond := [Cond.fieldLink RX5 27 "CaseLine$Tours" "wanted" "I", Cond.methodLink RX5 34 yX5_isIn, Cond.static yX5_isIn, Cond.initialized RX5, Cond.code yX5_isIn cX5_isIn 2 (some .boolean), Cond.methodLink RX5 48 yX5_minutesBy, Cond.instanceMethod yX5_minutesBy, Cond.selects RX5 yX5_minutesBy yX5_minutesBy, Cond.code yX5_minutesBy cX5_minutesBy 4 (some .int), Cond.methodLink RX5 52 yX5_minutes, Cond.instanceMethod yX5_minutes, Cond.selects RX5 yX5_minutes yX5_minutes, Cond.code yX5_minutes cX5_minutes 4 (some .int), Cond.fieldLink RX5 15 "CaseLine$Tours" "stainOf" "[I", Cond.fieldLink RX5 31 "CaseLine$Tours" "cleaning" "I", Cond.fieldLink RX5 11 "CaseLine$Tours" "minutesOf" "[I", Cond.static yX6_isKind, Cond.initialized RX6, Cond.code yX6_isKind cX6_isKind 1 (some .boolean), Cond.methodLink RX5 42 yX5_restOf, Cond.instanceMethod yX5_restOf, Cond.selects RX5 yX5_restOf yX5_restOf, Cond.code yX5_restOf cX5_restOf 3 (some .int), Cond.fieldLink RX5 18 "CaseLine$Tours" "rest" "[I"]
def wsX5_nextKind_r2 : List Cond := [Cond.static yX6_within, Cond.code yX6_within cX6_within 3 (some .boolean)]
def wsX5_nextKind : List Cond := .code yX5_nextKind cX5_nextKind 5 (some .int) :: ((wsX5_nextKind_r1 ++ wsX5_nextKind_r2) ++ wsX50)
def wsX5_leastRest_r1 : List Cond := [Cond.methodLink RX5 45 yX5_nextKind, Cond.instanceMethod yX5_nextKind, Cond.selects RX5 yX5_nextKind yX5_nextKind, Cond.initialized RX5, Cond.code yX5_nextKind cX5_nextKind 5 (some .int), Cond.fieldLink RX5 27 "CaseLine$Tours" "wanted" "I", Cond.methodLink RX5 34 yX5_isIn, Cond.static yX5_isIn, Cond.code yX5_isIn cX5_isIn 2 (some .boolean), Cond.methodLink RX5 48 yX5_minutesBy, Cond.instanceMethod yX5_minutesBy, Cond.selects RX5 yX5_minutesBy yX5_minutesBy, Cond.code yX5_minutesBy cX5_minutesBy 4 (some .int), Cond.methodLink RX5 52 yX5_minutes, Cond.instanceMethod yX5_minutes, Cond.selects RX5 yX5_minutes yX5_minutes, Cond.code yX5_minutes cX5_minutes 4 (some .int), Cond.fieldLink RX5 15 "CaseLine$Tours" "stainOf" "[I", Cond.fieldLink RX5 31 "CaseLine$Tours" "cleaning" "I", Cond.fieldLink RX5 11 "CaseLine$Tours" "minutesOf" "[I", Cond.static yX6_isKind, Cond.initialized RX6, Cond.code yX6_isKind cX6_isKind 1 (some .boolean), Cond.methodLink RX5 42 yX5_restOf]
def wsX5_leastRest_r2 : List Cond := [Cond.instanceMethod yX5_restOf, Cond.selects RX5 yX5_restOf yX5_restOf, Cond.code yX5_restOf cX5_restOf 3 (some .int), Cond.fieldLink RX5 18 "CaseLine$Tours" "rest" "[I", Cond.static yX6_within, Cond.code yX6_within cX6_within 3 (some .boolean)]
def wsX5_leastRest : List Cond := .code yX5_leastRest cX5_leastRest 4 (some .int) :: ((wsX5_leastRest_r1 ++ wsX5_leastRest_r2) ++ wsX50)
def wsX5_find_r1 : List Cond := [Cond.fieldLink RX5 27 "CaseLine$Tours" "wanted" "I", Cond.fieldLink RX5 31 "CaseLine$Tours" "cleaning" "I", Cond.fieldLink RX5 18 "CaseLine$Tours" "rest" "[I", Cond.methodLink RX5 34 yX5_isIn, Cond.static yX5_isIn, Cond.initialized RX5, Cond.code yX5_isIn cX5_isIn 2 (some .boolean), Cond.methodLink RX5 38 yX5_leastRest, Cond.instanceMethod yX5_leastRest, Cond.selects RX5 yX5_leastRest yX5_leastRest, Cond.code yX5_leastRest cX5_leastRest 4 (some .int), Cond.methodLink RX5 45 yX5_nextKind, Cond.instanceMethod yX5_nextKind, Cond.selects RX5 yX5_nextKind yX5_nextKind, Cond.code yX5_nextKind cX5_nextKind 5 (some .int), Cond.methodLink RX5 48 yX5_minutesBy, Cond.instanceMethod yX5_minutesBy, Cond.selects RX5 yX5_minutesBy yX5_minutesBy, Cond.code yX5_minutesBy cX5_minutesBy 4 (some .int), Cond.methodLink RX5 52 yX5_minutes, Cond.instanceMethod yX5_minutes, Cond.selects RX5 yX5_minutes yX5_minutes, Cond.code yX5_minutes cX5_minutes 4 (some .int), Cond.fieldLink RX5 15 "CaseLine$Tours" "stainOf" "[I"]
def wsX5_find_r2 : List Cond := [Cond.fieldLink RX5 11 "CaseLine$Tours" "minutesOf" "[I", Cond.static yX6_isKind, Cond.initialized RX6, Cond.code yX6_isKind cX6_isKind 1 (some .boolean), Cond.methodLink RX5 42 yX5_restOf, Cond.instanceMethod yX5_restOf, Cond.selects RX5 yX5_restOf yX5_restOf, Cond.code yX5_restOf cX5_restOf 3 (some .int), Cond.static yX6_within, Cond.code yX6_within cX6_within 3 (some .boolean)]
def wsX5_find : List Cond := .code yX5_find cX5_find 5 none :: ((wsX5_find_r1 ++ wsX5_find_r2) ++ wsX50)
def wsX5_least : List Cond := .code yX5_least cX5_least 2 (some .int) :: ([.methodLink RX5 42 yX5_restOf, .instanceMethod yX5_restOf, .selects RX5 yX5_restOf yX5_restOf, .initialized RX5, .code yX5_restOf cX5_restOf 3 (some .int), .fieldLink RX5 18 "CaseLine$Tours" "rest" "[I", .static yX6_within, .initialized RX6, .code yX6_within cX6_within 3 (some .boolean)] ++ wsX50)
def wsX5_kindAt_r1 : List Cond := [Cond.methodLink RX5 45 yX5_nextKind, Cond.instanceMethod yX5_nextKind, Cond.selects RX5 yX5_nextKind yX5_nextKind, Cond.initialized RX5, Cond.code yX5_nextKind cX5_nextKind 5 (some .int), Cond.fieldLink RX5 27 "CaseLine$Tours" "wanted" "I", Cond.methodLink RX5 34 yX5_isIn, Cond.static yX5_isIn, Cond.code yX5_isIn cX5_isIn 2 (some .boolean), Cond.methodLink RX5 48 yX5_minutesBy, Cond.instanceMethod yX5_minutesBy, Cond.selects RX5 yX5_minutesBy yX5_minutesBy, Cond.code yX5_minutesBy cX5_minutesBy 4 (some .int), Cond.methodLink RX5 52 yX5_minutes, Cond.instanceMethod yX5_minutes, Cond.selects RX5 yX5_minutes yX5_minutes, Cond.code yX5_minutes cX5_minutes 4 (some .int), Cond.fieldLink RX5 15 "CaseLine$Tours" "stainOf" "[I", Cond.fieldLink RX5 31 "CaseLine$Tours" "cleaning" "I", Cond.fieldLink RX5 11 "CaseLine$Tours" "minutesOf" "[I", Cond.static yX6_isKind, Cond.initialized RX6, Cond.code yX6_isKind cX6_isKind 1 (some .boolean), Cond.methodLink RX5 42 yX5_restOf]
def wsX5_kindAt_r2 : List Cond := [Cond.instanceMethod yX5_restOf, Cond.selects RX5 yX5_restOf yX5_restOf, Cond.code yX5_restOf cX5_restOf 3 (some .int), Cond.fieldLink RX5 18 "CaseLine$Tours" "rest" "[I", Cond.static yX6_within, Cond.code yX6_within cX6_within 3 (some .boolean)]
def wsX5_kindAt : List Cond := .code yX5_kindAt cX5_kindAt 6 (some .int) :: ((wsX5_kindAt_r1 ++ wsX5_kindAt_r2) ++ wsX50)
def wsX6_init_r1 : List Cond := [Cond.methodLink RX6 1 objectInit, Cond.instanceMethod objectInit, Cond.code objectInit ⟨#[0xb1]⟩ 1 none, Cond.classLink RX6 7 RX1, Cond.instantiable RX1 9, Cond.initialized RX1, Cond.fieldLink RX6 10 "CaseLine" "conveyor" "LCaseLine$Conveyor;", Cond.classLink RX6 16 RX0, Cond.instantiable RX0 9, Cond.initialized RX0, Cond.fieldLink RX6 19 "CaseLine" "codes" "LCaseLine$Codes;", Cond.classLink RX6 23 RX4, Cond.instantiable RX4 12, Cond.initialized RX4, Cond.fieldLink RX6 26 "CaseLine" "plan" "LCaseLine$Plan;", Cond.classLink RX6 30 RX5, Cond.instantiable RX5 5, Cond.initialized RX5, Cond.fieldLink RX6 33 "CaseLine" "tours" "LCaseLine$Tours;", Cond.fieldLink RX6 37 "CaseLine" "RULE_AT_FIRST" "[I", Cond.methodLink RX6 41 ⟨"[I", "clone", "()Ljava/lang/Object;"⟩, Cond.sameMethod "[I" "java/lang/Object" "clone" "()Ljava/lang/Object;", Cond.native ⟨"java/lang/Object", "clone", "()Ljava/lang/Object;"⟩, Cond.instanceMethod ⟨"java/lang/Object", "clone", "()Ljava/lang/Object;"⟩]
def wsX6_init_r2 : List Cond := [Cond.selects "[I" ⟨"[I", "clone", "()Ljava/lang/Object;"⟩ ⟨"java/lang/Object", "clone", "()Ljava/lang/Object;"⟩, Cond.classLink RX6 42 "[I", Cond.fieldLink RX6 46 "CaseLine" "rules" "[I", Cond.methodLink RX6 9 yX1_init, Cond.instanceMethod yX1_init, Cond.code yX1_init cX1_init 3 none, Cond.methodLink RX1 1 objectInit, Cond.classLink RX1 9 RX3, Cond.fieldLink RX1 11 "CaseLine$Conveyor" "machines" "[LCaseLine$Machine;", Cond.classLink RX1 15 RX2, Cond.instantiable RX2 4, Cond.initialized RX2, Cond.fieldLink RX1 18 "CaseLine$Conveyor" "faults" "LCaseLine$Faults;", Cond.arrayClass .int, Cond.fieldLink RX1 22 "CaseLine$Conveyor" "laidOn" "[I", Cond.instantiable RX3 14, Cond.initialized RX3, Cond.fieldLink RX1 29 "CaseLine$Conveyor" "count" "I", Cond.instanceMethod yX2_init, Cond.code yX2_init cX2_init 1 none, Cond.methodLink RX2 3 objectInit, Cond.fieldLink RX2 11 "CaseLine$Faults" "machineOf" "[I", Cond.fieldLink RX2 15 "CaseLine$Faults" "firstTick" "[I", Cond.fieldLink RX2 18 "CaseLine$Faults" "lastTick" "[I"]
def wsX6_init_r3 : List Cond := [Cond.methodLink RX1 26 yX3_init, Cond.instanceMethod yX3_init, Cond.code yX3_init cX3_init 3 none, Cond.methodLink RX3 3 objectInit, Cond.fieldLink RX3 11 "CaseLine$Machine" "setting" "[I", Cond.fieldLink RX3 15 "CaseLine$Machine" "number" "I", Cond.fieldLink RX3 19 "CaseLine$Machine" "ahead" "LCaseLine$Machine;", Cond.methodLink RX3 23 yX3_renew, Cond.instanceMethod yX3_renew, Cond.selects RX3 yX3_renew yX3_renew, Cond.code yX3_renew cX3_renew 1 none, Cond.fieldLink RX3 26 "CaseLine$Machine" "AT_FIRST" "[I", Cond.methodLink RX3 29 arraycopyName, Cond.native arraycopyName, Cond.static arraycopyName, Cond.initialized "java/lang/System", Cond.fieldLink RX3 35 "CaseLine$Machine" "inGap" "I", Cond.fieldLink RX3 38 "CaseLine$Machine" "working" "Z", Cond.fieldLink RX3 42 "CaseLine$Machine" "holding" "Z", Cond.fieldLink RX3 45 "CaseLine$Machine" "ticksOnUnit" "I", Cond.fieldLink RX3 48 "CaseLine$Machine" "finished" "I", Cond.fieldLink RX3 51 "CaseLine$Machine" "rejected" "I", Cond.fieldLink RX3 54 "CaseLine$Machine" "sampled" "I", Cond.fieldLink RX3 57 "CaseLine$Machine" "unconfirmed" "I"]
def wsX6_init_r4 : List Cond := [Cond.fieldLink RX3 60 "CaseLine$Machine" "oldestReject" "I", Cond.fieldLink RX3 63 "CaseLine$Machine" "state" "I", Cond.fieldLink RX3 66 "CaseLine$Machine" "ran" "I", Cond.methodLink RX6 18 yX0_init, Cond.instanceMethod yX0_init, Cond.code yX0_init cX0_init 1 none, Cond.methodLink RX0 3 objectInit, Cond.fieldLink RX0 11 "CaseLine$Codes" "boxOf" "[I", Cond.fieldLink RX0 15 "CaseLine$Codes" "lotOf" "[I", Cond.fieldLink RX0 18 "CaseLine$Codes" "weightOf" "[I", Cond.fieldLink RX0 21 "CaseLine$Codes" "unitsIn" "[I", Cond.arrayClass .boolean, Cond.fieldLink RX0 24 "CaseLine$Codes" "boxClosed" "[Z", Cond.fieldLink RX0 28 "CaseLine$Codes" "palletOf" "[I", Cond.fieldLink RX0 31 "CaseLine$Codes" "boxesOn" "[I", Cond.fieldLink RX0 34 "CaseLine$Codes" "palletClosed" "[Z", Cond.methodLink RX0 37 yJ7_fill_53178, Cond.static yJ7_fill_53178, Cond.initialized RJ7, Cond.code yJ7_fill_53178 cJ7_fill_53178 4 none, Cond.instanceMethod yX4_init, Cond.code yX4_init cX4_init 1 none, Cond.methodLink RX4 5 objectInit, Cond.fieldLink RX4 11 "CaseLine$Plan" "most" "[I"]
def wsX6_init_r5 : List Cond := [Cond.fieldLink RX4 15 "CaseLine$Plan" "place" "[I", Cond.fieldLink RX4 18 "CaseLine$Plan" "part" "[I", Cond.fieldLink RX4 21 "CaseLine$Plan" "owner" "[I", Cond.methodLink RX6 32 yX5_init, Cond.instanceMethod yX5_init, Cond.code yX5_init cX5_init 1 none, Cond.methodLink RX5 5 objectInit, Cond.fieldLink RX5 11 "CaseLine$Tours" "minutesOf" "[I", Cond.fieldLink RX5 15 "CaseLine$Tours" "stainOf" "[I", Cond.fieldLink RX5 18 "CaseLine$Tours" "rest" "[I", Cond.methodLink RX5 21 yJ7_fill_53178]
def wsX6_init : List Cond := .code yX6_init cX6_init 1 none :: ((wsX6_init_r1 ++ (wsX6_init_r2 ++ (wsX6_init_r3 ++ (wsX6_init_r4 ++ wsX6_init_r5)))) ++ wsX10 ++ wsX60 ++ wsX00 ++ wsX40 ++ wsX50 ++ wsX20 ++ wsX30)
def wsX6_line_r1 : List Cond := [Cond.fieldLink RX6 10 "CaseLine" "conveyor" "LCaseLine$Conveyor;", Cond.methodLink RX6 49 yX6_within, Cond.static yX6_within, Cond.initialized RX6, Cond.code yX6_within cX6_within 3 (some .boolean), Cond.methodLink RX6 53 yX1_renew, Cond.instanceMethod yX1_renew, Cond.selects RX1 yX1_renew yX1_renew, Cond.initialized RX1, Cond.code yX1_renew cX1_renew 4 none, Cond.fieldLink RX1 29 "CaseLine$Conveyor" "count" "I", Cond.fieldLink RX1 11 "CaseLine$Conveyor" "machines" "[LCaseLine$Machine;", Cond.fieldLink RX1 18 "CaseLine$Conveyor" "faults" "LCaseLine$Faults;", Cond.fieldLink RX1 22 "CaseLine$Conveyor" "laidOn" "[I", Cond.fieldLink RX1 45 "CaseLine$Conveyor" "ticksDone" "I", Cond.fieldLink RX1 48 "CaseLine$Conveyor" "inSupply" "I", Cond.fieldLink RX1 51 "CaseLine$Conveyor" "taken" "I", Cond.fieldLink RX1 54 "CaseLine$Conveyor" "good" "I", Cond.fieldLink RX1 57 "CaseLine$Conveyor" "stopped" "I", Cond.methodLink RX1 33 yX3_renew, Cond.instanceMethod yX3_renew, Cond.selects RX3 yX3_renew yX3_renew, Cond.initialized RX3, Cond.code yX3_renew cX3_renew 1 none]
def wsX6_line_r2 : List Cond := [Cond.fieldLink RX3 26 "CaseLine$Machine" "AT_FIRST" "[I", Cond.fieldLink RX3 11 "CaseLine$Machine" "setting" "[I", Cond.methodLink RX3 29 arraycopyName, Cond.native arraycopyName, Cond.static arraycopyName, Cond.initialized "java/lang/System", Cond.fieldLink RX3 35 "CaseLine$Machine" "inGap" "I", Cond.fieldLink RX3 38 "CaseLine$Machine" "working" "Z", Cond.fieldLink RX3 42 "CaseLine$Machine" "holding" "Z", Cond.fieldLink RX3 45 "CaseLine$Machine" "ticksOnUnit" "I", Cond.fieldLink RX3 48 "CaseLine$Machine" "finished" "I", Cond.fieldLink RX3 51 "CaseLine$Machine" "rejected" "I", Cond.fieldLink RX3 54 "CaseLine$Machine" "sampled" "I", Cond.fieldLink RX3 57 "CaseLine$Machine" "unconfirmed" "I", Cond.fieldLink RX3 60 "CaseLine$Machine" "oldestReject" "I", Cond.fieldLink RX3 63 "CaseLine$Machine" "state" "I", Cond.fieldLink RX3 66 "CaseLine$Machine" "ran" "I", Cond.methodLink RX1 36 yX2_clear, Cond.instanceMethod yX2_clear, Cond.selects RX2 yX2_clear yX2_clear, Cond.initialized RX2, Cond.code yX2_clear cX2_clear 1 none, Cond.fieldLink RX2 21 "CaseLine$Faults" "count" "I", Cond.methodLink RX1 39 yJ7_fill_53178]
def wsX6_line_r3 : List Cond := [Cond.static yJ7_fill_53178, Cond.initialized RJ7, Cond.code yJ7_fill_53178 cJ7_fill_53178 4 none]
def wsX6_line : List Cond := .code yX6_line cX6_line 2 (some .int) :: ((wsX6_line_r1 ++ (wsX6_line_r2 ++ wsX6_line_r3)) ++ wsX60 ++ wsX10 ++ wsX30 ++ wsX20)
def wsX6_set_r1 : List Cond := [Cond.fieldLink RX6 10 "CaseLine" "conveyor" "LCaseLine$Conveyor;", Cond.fieldLink RX6 71 "CaseLine$Machine" "inGap" "I", Cond.methodLink RX6 57 yX1_machineAt, Cond.instanceMethod yX1_machineAt, Cond.selects RX1 yX1_machineAt yX1_machineAt, Cond.initialized RX1, Cond.code yX1_machineAt cX1_machineAt 2 (some (.object "CaseLine$Machine")), Cond.fieldLink RX1 29 "CaseLine$Conveyor" "count" "I", Cond.fieldLink RX1 11 "CaseLine$Conveyor" "machines" "[LCaseLine$Machine;", Cond.methodLink RX6 61 yX3_mayBeSet, Cond.instanceMethod yX3_mayBeSet, Cond.selects RX3 yX3_mayBeSet yX3_mayBeSet, Cond.initialized RX3, Cond.code yX3_mayBeSet cX3_mayBeSet 3 (some .boolean), Cond.fieldLink RX3 73 "CaseLine$Machine" "LEAST" "[I", Cond.fieldLink RX3 76 "CaseLine$Machine" "MOST" "[I", Cond.static yX6_within, Cond.initialized RX6, Cond.code yX6_within cX6_within 3 (some .boolean), Cond.methodLink RX6 67 yX1_isLast, Cond.instanceMethod yX1_isLast, Cond.selects RX1 yX1_isLast yX1_isLast, Cond.code yX1_isLast cX1_isLast 2 (some .boolean), Cond.fieldLink RX1 60 "CaseLine$Machine" "number" "I"]
def wsX6_set_r2 : List Cond := [Cond.methodLink RX6 75 yX3_put, Cond.instanceMethod yX3_put, Cond.selects RX3 yX3_put yX3_put, Cond.code yX3_put cX3_put 4 (some .int), Cond.fieldLink RX3 11 "CaseLine$Machine" "setting" "[I", Cond.methodLink RX3 79 yX3_mayBeSet]
def wsX6_set : List Cond := .code yX6_set cX6_set 5 (some .int) :: ((wsX6_set_r1 ++ wsX6_set_r2) ++ wsX60 ++ wsX30 ++ wsX10)
def wsX6_fault : List Cond := .code yX6_fault cX6_fault 4 (some .int) :: ([.fieldLink RX6 10 "CaseLine" "conveyor" "LCaseLine$Conveyor;", .fieldLink RX6 79 "CaseLine$Conveyor" "ticksDone" "I", .fieldLink RX6 82 "CaseLine$Conveyor" "faults" "LCaseLine$Faults;", .methodLink RX6 57 yX1_machineAt, .instanceMethod yX1_machineAt, .selects RX1 yX1_machineAt yX1_machineAt, .initialized RX1, .code yX1_machineAt cX1_machineAt 2 (some (.object "CaseLine$Machine")), .fieldLink RX1 29 "CaseLine$Conveyor" "count" "I", .fieldLink RX1 11 "CaseLine$Conveyor" "machines" "[LCaseLine$Machine;", .methodLink RX6 86 yX2_add, .instanceMethod yX2_add, .selects RX2 yX2_add yX2_add, .initialized RX2, .code yX2_add cX2_add 4 (some .int), .fieldLink RX2 21 "CaseLine$Faults" "count" "I", .fieldLink RX2 11 "CaseLine$Faults" "machineOf" "[I", .fieldLink RX2 15 "CaseLine$Faults" "firstTick" "[I", .fieldLink RX2 18 "CaseLine$Faults" "lastTick" "[I"] ++ wsX60 ++ wsX10 ++ wsX20)
def wsX6_supply : List Cond := .code yX6_supply cX6_supply 2 (some .int) :: ([.fieldLink RX6 10 "CaseLine" "conveyor" "LCaseLine$Conveyor;", .fieldLink RX6 92 "CaseLine$Conveyor" "inSupply" "I", .constant RX6 95 (100000), .methodLink RX6 49 yX6_within, .static yX6_within, .initialized RX6, .code yX6_within cX6_within 3 (some .boolean)] ++ wsX60 ++ wsX10)
def wsX6_lot : List Cond := .code yX6_lot cX6_lot 3 (some .int) :: ([.fieldLink RX6 96 "CaseLine" "lotNow" "I", .methodLink RX6 49 yX6_within, .static yX6_within, .initialized RX6, .code yX6_within cX6_within 3 (some .boolean)] ++ wsX60)
def wsX6_ticks_r1 : List Cond := [Cond.fieldLink RX6 10 "CaseLine" "conveyor" "LCaseLine$Conveyor;", Cond.fieldLink RX6 79 "CaseLine$Conveyor" "ticksDone" "I", Cond.fieldLink RX6 19 "CaseLine" "codes" "LCaseLine$Codes;", Cond.fieldLink RX6 96 "CaseLine" "lotNow" "I", Cond.methodLink RX6 49 yX6_within, Cond.static yX6_within, Cond.initialized RX6, Cond.code yX6_within cX6_within 3 (some .boolean), Cond.methodLink RX6 99 yX1_step, Cond.instanceMethod yX1_step, Cond.selects RX1 yX1_step yX1_step, Cond.initialized RX1, Cond.code yX1_step cX1_step 3 (some .boolean), Cond.fieldLink RX1 54 "CaseLine$Conveyor" "good" "I", Cond.fieldLink RX1 75 "CaseLine$Machine" "state" "I", Cond.fieldLink RX1 78 "CaseLine$Machine" "ran" "I", Cond.fieldLink RX1 81 "CaseLine$Machine" "ahead" "LCaseLine$Machine;", Cond.fieldLink RX1 45 "CaseLine$Conveyor" "ticksDone" "I", Cond.methodLink RX1 67 yX1_last, Cond.instanceMethod yX1_last, Cond.selects RX1 yX1_last yX1_last, Cond.code yX1_last cX1_last 1 (some (.object "CaseLine$Machine")), Cond.fieldLink RX1 29 "CaseLine$Conveyor" "count" "I", Cond.methodLink RX1 63 yX1_machineAt]
def wsX6_ticks_r2 : List Cond := [Cond.instanceMethod yX1_machineAt, Cond.selects RX1 yX1_machineAt yX1_machineAt, Cond.code yX1_machineAt cX1_machineAt 2 (some (.object "CaseLine$Machine")), Cond.fieldLink RX1 11 "CaseLine$Conveyor" "machines" "[LCaseLine$Machine;", Cond.methodLink RX1 71 yX1_stepOf, Cond.instanceMethod yX1_stepOf, Cond.selects RX1 yX1_stepOf yX1_stepOf, Cond.code yX1_stepOf cX1_stepOf 2 (some .int), Cond.fieldLink RX1 18 "CaseLine$Conveyor" "faults" "LCaseLine$Faults;", Cond.fieldLink RX1 60 "CaseLine$Machine" "number" "I", Cond.fieldLink RX1 96 "CaseLine$Machine" "holding" "Z", Cond.fieldLink RX1 104 "CaseLine$Machine" "working" "Z", Cond.fieldLink RX1 111 "CaseLine$Machine" "ticksOnUnit" "I", Cond.methodLink RX1 88 yX2_stop, Cond.instanceMethod yX2_stop, Cond.selects RX2 yX2_stop yX2_stop, Cond.initialized RX2, Cond.code yX2_stop cX2_stop 4 (some .boolean), Cond.fieldLink RX2 21 "CaseLine$Faults" "count" "I", Cond.fieldLink RX2 11 "CaseLine$Faults" "machineOf" "[I", Cond.fieldLink RX2 15 "CaseLine$Faults" "firstTick" "[I", Cond.fieldLink RX2 18 "CaseLine$Faults" "lastTick" "[I", Cond.methodLink RX1 92 yX3_waitsForWord, Cond.instanceMethod yX3_waitsForWord]
def wsX6_ticks_r3 : List Cond := [Cond.selects RX3 yX3_waitsForWord yX3_waitsForWord, Cond.initialized RX3, Cond.code yX3_waitsForWord cX3_waitsForWord 2 (some .boolean), Cond.fieldLink RX3 57 "CaseLine$Machine" "unconfirmed" "I", Cond.fieldLink RX3 60 "CaseLine$Machine" "oldestReject" "I", Cond.methodLink RX1 100 yX3_giveOn, Cond.instanceMethod yX3_giveOn, Cond.selects RX3 yX3_giveOn yX3_giveOn, Cond.code yX3_giveOn cX3_giveOn 1 (some .boolean), Cond.fieldLink RX3 35 "CaseLine$Machine" "inGap" "I", Cond.fieldLink RX3 11 "CaseLine$Machine" "setting" "[I", Cond.fieldLink RX3 42 "CaseLine$Machine" "holding" "Z", Cond.methodLink RX1 107 yX1_takeFor, Cond.instanceMethod yX1_takeFor, Cond.selects RX1 yX1_takeFor yX1_takeFor, Cond.code yX1_takeFor cX1_takeFor 2 (some .boolean), Cond.fieldLink RX1 48 "CaseLine$Conveyor" "inSupply" "I", Cond.fieldLink RX1 51 "CaseLine$Conveyor" "taken" "I", Cond.fieldLink RX1 121 "CaseLine$Machine" "inGap" "I", Cond.methodLink RX1 114 yX3_unitIsFinished, Cond.instanceMethod yX3_unitIsFinished, Cond.selects RX3 yX3_unitIsFinished yX3_unitIsFinished, Cond.code yX3_unitIsFinished cX3_unitIsFinished 1 (some .boolean), Cond.fieldLink RX3 45 "CaseLine$Machine" "ticksOnUnit" "I"]
def wsX6_ticks_r4 : List Cond := [Cond.methodLink RX1 117 yX1_finishAt, Cond.instanceMethod yX1_finishAt, Cond.selects RX1 yX1_finishAt yX1_finishAt, Cond.code yX1_finishAt cX1_finishAt 2 none, Cond.methodLink RX1 124 yX3_passes, Cond.instanceMethod yX3_passes, Cond.selects RX3 yX3_passes yX3_passes, Cond.code yX3_passes cX3_passes 2 (some .boolean), Cond.fieldLink RX3 38 "CaseLine$Machine" "working" "Z", Cond.fieldLink RX3 48 "CaseLine$Machine" "finished" "I", Cond.fieldLink RX3 54 "CaseLine$Machine" "sampled" "I", Cond.methodLink RX3 83 yX3_isEach, Cond.instanceMethod yX3_isEach, Cond.selects RX3 yX3_isEach yX3_isEach, Cond.code yX3_isEach cX3_isEach 2 (some .boolean), Cond.methodLink RX3 87 yX3_reject, Cond.instanceMethod yX3_reject, Cond.selects RX3 yX3_reject yX3_reject, Cond.code yX3_reject cX3_reject 2 none, Cond.fieldLink RX3 51 "CaseLine$Machine" "rejected" "I", Cond.methodLink RX1 127 yX1_isLast, Cond.instanceMethod yX1_isLast, Cond.selects RX1 yX1_isLast yX1_isLast, Cond.code yX1_isLast cX1_isLast 2 (some .boolean)]
def wsX6_ticks_r5 : List Cond := [Cond.methodLink RX1 85 yX1_layOnCause, Cond.instanceMethod yX1_layOnCause, Cond.selects RX1 yX1_layOnCause yX1_layOnCause, Cond.code yX1_layOnCause cX1_layOnCause 2 none, Cond.fieldLink RX1 57 "CaseLine$Conveyor" "stopped" "I", Cond.fieldLink RX1 22 "CaseLine$Conveyor" "laidOn" "[I", Cond.methodLink RX6 103 yX0_add, Cond.instanceMethod yX0_add, Cond.selects RX0 yX0_add yX0_add, Cond.initialized RX0, Cond.code yX0_add cX0_add 2 none, Cond.fieldLink RX0 43 "CaseLine$Codes" "count" "I", Cond.fieldLink RX0 11 "CaseLine$Codes" "boxOf" "[I", Cond.fieldLink RX0 15 "CaseLine$Codes" "lotOf" "[I", Cond.fieldLink RX0 18 "CaseLine$Codes" "weightOf" "[I"]
def wsX6_ticks : List Cond := .code yX6_ticks cX6_ticks 3 (some .int) :: ((wsX6_ticks_r1 ++ (wsX6_ticks_r2 ++ (wsX6_ticks_r3 ++ (wsX6_ticks_r4 ++ wsX6_ticks_r5)))) ++ wsX60 ++ wsX10 ++ wsX30 ++ wsX20 ++ wsX00)
def wsX6_confirm : List Cond := .code yX6_confirm cX6_confirm 4 (some .int) :: ([.fieldLink RX6 10 "CaseLine" "conveyor" "LCaseLine$Conveyor;", .fieldLink RX6 105 "CaseLine$Machine" "unconfirmed" "I", .methodLink RX6 57 yX1_machineAt, .instanceMethod yX1_machineAt, .selects RX1 yX1_machineAt yX1_machineAt, .initialized RX1, .code yX1_machineAt cX1_machineAt 2 (some (.object "CaseLine$Machine")), .fieldLink RX1 29 "CaseLine$Conveyor" "count" "I", .fieldLink RX1 11 "CaseLine$Conveyor" "machines" "[LCaseLine$Machine;"] ++ wsX60 ++ wsX30 ++ wsX10)
def wsX6_about : List Cond := .code yX6_about cX6_about 4 (some .int) :: ([.fieldLink RX6 10 "CaseLine" "conveyor" "LCaseLine$Conveyor;", .fieldLink RX6 108 "CaseLine$Machine" "state" "I", .fieldLink RX6 111 "CaseLine$Machine" "finished" "I", .fieldLink RX6 114 "CaseLine$Machine" "rejected" "I", .fieldLink RX6 117 "CaseLine$Machine" "sampled" "I", .fieldLink RX6 71 "CaseLine$Machine" "inGap" "I", .fieldLink RX6 105 "CaseLine$Machine" "unconfirmed" "I", .fieldLink RX6 124 "CaseLine$Machine" "ran" "I", .methodLink RX6 57 yX1_machineAt, .instanceMethod yX1_machineAt, .selects RX1 yX1_machineAt yX1_machineAt, .initialized RX1, .code yX1_machineAt cX1_machineAt 2 (some (.object "CaseLine$Machine")), .fieldLink RX1 29 "CaseLine$Conveyor" "count" "I", .fieldLink RX1 11 "CaseLine$Conveyor" "machines" "[LCaseLine$Machine;", .methodLink RX6 120 yX3_unitsInside, .instanceMethod yX3_unitsInside, .selects RX3 yX3_unitsInside yX3_unitsInside, .initialized RX3, .code yX3_unitsInside cX3_unitsInside 1 (some .int), .fieldLink RX3 38 "CaseLine$Machine" "working" "Z", .fieldLink RX3 42 "CaseLine$Machine" "holding" "Z"] ++ wsX60 ++ wsX30 ++ wsX10)
def wsX6_cause : List Cond := .code yX6_cause cX6_cause 2 (some .int) :: ([.fieldLink RX6 10 "CaseLine" "conveyor" "LCaseLine$Conveyor;", .fieldLink RX6 127 "CaseLine$Conveyor" "laidOn" "[I", .methodLink RX6 49 yX6_within, .static yX6_within, .initialized RX6, .code yX6_within cX6_within 3 (some .boolean)] ++ wsX60 ++ wsX10)
def wsX6_book_r1 : List Cond := [Cond.fieldLink RX6 10 "CaseLine" "conveyor" "LCaseLine$Conveyor;", Cond.fieldLink RX6 79 "CaseLine$Conveyor" "ticksDone" "I", Cond.fieldLink RX6 92 "CaseLine$Conveyor" "inSupply" "I", Cond.fieldLink RX6 130 "CaseLine$Conveyor" "taken" "I", Cond.fieldLink RX6 133 "CaseLine$Conveyor" "good" "I", Cond.fieldLink RX6 145 "CaseLine$Conveyor" "stopped" "I", Cond.methodLink RX6 136 yX1_allRejected, Cond.instanceMethod yX1_allRejected, Cond.selects RX1 yX1_allRejected yX1_allRejected, Cond.initialized RX1, Cond.code yX1_allRejected cX1_allRejected 3 (some .int), Cond.fieldLink RX1 136 "CaseLine$Machine" "rejected" "I", Cond.fieldLink RX1 81 "CaseLine$Machine" "ahead" "LCaseLine$Machine;", Cond.methodLink RX1 67 yX1_last, Cond.instanceMethod yX1_last, Cond.selects RX1 yX1_last yX1_last, Cond.code yX1_last cX1_last 1 (some (.object "CaseLine$Machine")), Cond.fieldLink RX1 29 "CaseLine$Conveyor" "count" "I", Cond.methodLink RX1 63 yX1_machineAt, Cond.instanceMethod yX1_machineAt, Cond.selects RX1 yX1_machineAt yX1_machineAt, Cond.code yX1_machineAt cX1_machineAt 2 (some (.object "CaseLine$Machine")), Cond.fieldLink RX1 11 "CaseLine$Conveyor" "machines" "[LCaseLine$Machine;", Cond.methodLink RX6 139 yX1_allSampled]
def wsX6_book_r2 : List Cond := [Cond.instanceMethod yX1_allSampled, Cond.selects RX1 yX1_allSampled yX1_allSampled, Cond.code yX1_allSampled cX1_allSampled 3 (some .int), Cond.fieldLink RX1 139 "CaseLine$Machine" "sampled" "I", Cond.methodLink RX6 142 yX1_allOnLine, Cond.instanceMethod yX1_allOnLine, Cond.selects RX1 yX1_allOnLine yX1_allOnLine, Cond.code yX1_allOnLine cX1_allOnLine 3 (some .int), Cond.fieldLink RX1 121 "CaseLine$Machine" "inGap" "I", Cond.methodLink RX1 142 yX3_unitsInside, Cond.instanceMethod yX3_unitsInside, Cond.selects RX3 yX3_unitsInside yX3_unitsInside, Cond.initialized RX3, Cond.code yX3_unitsInside cX3_unitsInside 1 (some .int), Cond.fieldLink RX3 38 "CaseLine$Machine" "working" "Z", Cond.fieldLink RX3 42 "CaseLine$Machine" "holding" "Z"]
def wsX6_book : List Cond := .code yX6_book cX6_book 2 (some .int) :: ((wsX6_book_r1 ++ wsX6_book_r2) ++ wsX60 ++ wsX10 ++ wsX30)
def wsX6_rule : List Cond := .code yX6_rule cX6_rule 4 (some .int) :: ([.fieldLink RX6 148 "CaseLine" "RULE_LEAST" "[I", .fieldLink RX6 151 "CaseLine" "RULE_MOST" "[I", .fieldLink RX6 19 "CaseLine" "codes" "LCaseLine$Codes;", .fieldLink RX6 46 "CaseLine" "rules" "[I", .methodLink RX6 49 yX6_within, .static yX6_within, .initialized RX6, .code yX6_within cX6_within 3 (some .boolean), .methodLink RX6 154 yX0_fullestCase, .instanceMethod yX0_fullestCase, .selects RX0 yX0_fullestCase yX0_fullestCase, .initialized RX0, .code yX0_fullestCase cX0_fullestCase 3 (some .int), .fieldLink RX0 21 "CaseLine$Codes" "unitsIn" "[I", .methodLink RX0 66 Lib.Math.max.name, .static Lib.Math.max.name, .initialized "java/lang/Math", .code Lib.Math.max.name Lib.Math.max.code 2 (some .int), .methodLink RX6 157 yX0_fullestPallet, .instanceMethod yX0_fullestPallet, .selects RX0 yX0_fullestPallet yX0_fullestPallet, .code yX0_fullestPallet cX0_fullestPallet 3 (some .int), .fieldLink RX0 31 "CaseLine$Codes" "boxesOn" "[I"] ++ wsX60 ++ wsX00)
def wsX6_pack : List Cond := .code yX6_pack cX6_pack 3 (some .int) :: ([.fieldLink RX6 19 "CaseLine" "codes" "LCaseLine$Codes;", .fieldLink RX6 46 "CaseLine" "rules" "[I", .methodLink RX6 49 yX6_within, .static yX6_within, .initialized RX6, .code yX6_within cX6_within 3 (some .boolean), .methodLink RX6 160 yX6_isBox, .static yX6_isBox, .code yX6_isBox cX6_isBox 1 (some .boolean), .methodLink RX6 164 yX0_packInto, .instanceMethod yX0_packInto, .selects RX0 yX0_packInto yX0_packInto, .initialized RX0, .code yX0_packInto cX0_packInto 4 (some .int), .fieldLink RX0 11 "CaseLine$Codes" "boxOf" "[I", .fieldLink RX0 24 "CaseLine$Codes" "boxClosed" "[Z", .fieldLink RX0 21 "CaseLine$Codes" "unitsIn" "[I", .methodLink RX0 51 yX0_known, .instanceMethod yX0_known, .selects RX0 yX0_known yX0_known, .code yX0_known cX0_known 2 (some .boolean), .fieldLink RX0 43 "CaseLine$Codes" "count" "I"] ++ wsX60 ++ wsX00)
def wsX6_close : List Cond := .code yX6_close cX6_close 2 (some .int) :: ([.fieldLink RX6 19 "CaseLine" "codes" "LCaseLine$Codes;", .fieldLink RX6 46 "CaseLine" "rules" "[I", .methodLink RX6 160 yX6_isBox, .static yX6_isBox, .initialized RX6, .code yX6_isBox cX6_isBox 1 (some .boolean), .methodLink RX6 49 yX6_within, .static yX6_within, .code yX6_within cX6_within 3 (some .boolean), .methodLink RX6 167 yX0_closeBox, .instanceMethod yX0_closeBox, .selects RX0 yX0_closeBox yX0_closeBox, .initialized RX0, .code yX0_closeBox cX0_closeBox 3 (some .int), .fieldLink RX0 24 "CaseLine$Codes" "boxClosed" "[Z", .fieldLink RX0 21 "CaseLine$Codes" "unitsIn" "[I"] ++ wsX60 ++ wsX00)
def wsX6_weigh_r1 : List Cond := [Cond.constant RX6 170 (1000000), Cond.fieldLink RX6 46 "CaseLine" "rules" "[I", Cond.methodLink RX6 171 Lib.Math.abs.name, Cond.static Lib.Math.abs.name, Cond.initialized "java/lang/Math", Cond.code Lib.Math.abs.name Lib.Math.abs.code 1 (some .int), Cond.fieldLink RX6 19 "CaseLine" "codes" "LCaseLine$Codes;", Cond.methodLink RX6 160 yX6_isBox, Cond.static yX6_isBox, Cond.initialized RX6, Cond.code yX6_isBox cX6_isBox 1 (some .boolean), Cond.methodLink RX6 49 yX6_within, Cond.static yX6_within, Cond.code yX6_within cX6_within 3 (some .boolean), Cond.methodLink RX6 177 yX0_closeWithLost, Cond.instanceMethod yX0_closeWithLost, Cond.selects RX0 yX0_closeWithLost yX0_closeWithLost, Cond.initialized RX0, Cond.code yX0_closeWithLost cX0_closeWithLost 4 (some .int), Cond.fieldLink RX0 24 "CaseLine$Codes" "boxClosed" "[Z", Cond.fieldLink RX0 21 "CaseLine$Codes" "unitsIn" "[I", Cond.fieldLink RX0 11 "CaseLine$Codes" "boxOf" "[I", Cond.methodLink RX0 55 yX0_leastIn, Cond.instanceMethod yX0_leastIn]
def wsX6_weigh_r2 : List Cond := [Cond.selects RX0 yX0_leastIn yX0_leastIn, Cond.code yX0_leastIn cX0_leastIn 3 (some .int), Cond.fieldLink RX0 43 "CaseLine$Codes" "count" "I", Cond.methodLink RX0 59 yX0_greatestIn, Cond.instanceMethod yX0_greatestIn, Cond.selects RX0 yX0_greatestIn yX0_greatestIn, Cond.code yX0_greatestIn cX0_greatestIn 3 (some .int), Cond.methodLink RX0 62 yX0_onlyLooseIn, Cond.instanceMethod yX0_onlyLooseIn, Cond.selects RX0 yX0_onlyLooseIn yX0_onlyLooseIn, Cond.code yX0_onlyLooseIn cX0_onlyLooseIn 5 (some .int), Cond.methodLink RX0 66 Lib.Math.max.name, Cond.static Lib.Math.max.name, Cond.code Lib.Math.max.name Lib.Math.max.code 2 (some .int), Cond.methodLink RX0 51 yX0_known, Cond.instanceMethod yX0_known, Cond.selects RX0 yX0_known yX0_known, Cond.code yX0_known cX0_known 2 (some .boolean)]
def wsX6_weigh : List Cond := .code yX6_weigh cX6_weigh 4 (some .int) :: ((wsX6_weigh_r1 ++ wsX6_weigh_r2) ++ wsX60 ++ wsX00)
def wsX6_stack : List Cond := .code yX6_stack cX6_stack 3 (some .int) :: ([.fieldLink RX6 19 "CaseLine" "codes" "LCaseLine$Codes;", .fieldLink RX6 46 "CaseLine" "rules" "[I", .methodLink RX6 160 yX6_isBox, .static yX6_isBox, .initialized RX6, .code yX6_isBox cX6_isBox 1 (some .boolean), .methodLink RX6 49 yX6_within, .static yX6_within, .code yX6_within cX6_within 3 (some .boolean), .methodLink RX6 180 yX6_isPallet, .static yX6_isPallet, .code yX6_isPallet cX6_isPallet 1 (some .boolean), .methodLink RX6 183 yX0_stackOn, .instanceMethod yX0_stackOn, .selects RX0 yX0_stackOn yX0_stackOn, .initialized RX0, .code yX0_stackOn cX0_stackOn 4 (some .int), .fieldLink RX0 24 "CaseLine$Codes" "boxClosed" "[Z", .fieldLink RX0 28 "CaseLine$Codes" "palletOf" "[I", .fieldLink RX0 34 "CaseLine$Codes" "palletClosed" "[Z", .fieldLink RX0 31 "CaseLine$Codes" "boxesOn" "[I"] ++ wsX60 ++ wsX00)
def wsX6_seal : List Cond := .code yX6_seal cX6_seal 2 (some .int) :: ([.fieldLink RX6 19 "CaseLine" "codes" "LCaseLine$Codes;", .methodLink RX6 180 yX6_isPallet, .static yX6_isPallet, .initialized RX6, .code yX6_isPallet cX6_isPallet 1 (some .boolean), .methodLink RX6 49 yX6_within, .static yX6_within, .code yX6_within cX6_within 3 (some .boolean), .methodLink RX6 186 yX0_sealPallet, .instanceMethod yX0_sealPallet, .selects RX0 yX0_sealPallet yX0_sealPallet, .initialized RX0, .code yX0_sealPallet cX0_sealPallet 2 (some .int), .fieldLink RX0 34 "CaseLine$Codes" "palletClosed" "[Z", .fieldLink RX0 31 "CaseLine$Codes" "boxesOn" "[I"] ++ wsX60 ++ wsX00)
def wsX6_breakUp_r1 : List Cond := [Cond.fieldLink RX6 19 "CaseLine" "codes" "LCaseLine$Codes;", Cond.methodLink RX6 160 yX6_isBox, Cond.static yX6_isBox, Cond.initialized RX6, Cond.code yX6_isBox cX6_isBox 1 (some .boolean), Cond.methodLink RX6 49 yX6_within, Cond.static yX6_within, Cond.code yX6_within cX6_within 3 (some .boolean), Cond.methodLink RX6 189 yX0_breakBox, Cond.instanceMethod yX0_breakBox, Cond.selects RX0 yX0_breakBox yX0_breakBox, Cond.initialized RX0, Cond.code yX0_breakBox cX0_breakBox 4 (some .int), Cond.fieldLink RX0 28 "CaseLine$Codes" "palletOf" "[I", Cond.fieldLink RX0 21 "CaseLine$Codes" "unitsIn" "[I", Cond.fieldLink RX0 43 "CaseLine$Codes" "count" "I", Cond.fieldLink RX0 11 "CaseLine$Codes" "boxOf" "[I", Cond.fieldLink RX0 24 "CaseLine$Codes" "boxClosed" "[Z", Cond.methodLink RX6 180 yX6_isPallet, Cond.static yX6_isPallet, Cond.code yX6_isPallet cX6_isPallet 1 (some .boolean), Cond.methodLink RX6 192 yX0_breakPallet, Cond.instanceMethod yX0_breakPallet, Cond.selects RX0 yX0_breakPallet yX0_breakPallet]
def wsX6_breakUp_r2 : List Cond := [Cond.code yX0_breakPallet cX0_breakPallet 4 (some .int), Cond.fieldLink RX0 31 "CaseLine$Codes" "boxesOn" "[I", Cond.fieldLink RX0 34 "CaseLine$Codes" "palletClosed" "[Z"]
def wsX6_breakUp : List Cond := .code yX6_breakUp cX6_breakUp 3 (some .int) :: ((wsX6_breakUp_r1 ++ wsX6_breakUp_r2) ++ wsX60 ++ wsX00)
def wsX6_code : List Cond := .code yX6_code cX6_code 3 (some .int) :: ([.fieldLink RX6 19 "CaseLine" "codes" "LCaseLine$Codes;", .fieldLink RX6 198 "CaseLine$Codes" "boxOf" "[I", .fieldLink RX6 204 "CaseLine$Codes" "lotOf" "[I", .fieldLink RX6 207 "CaseLine$Codes" "weightOf" "[I", .methodLink RX6 195 yX0_known, .instanceMethod yX0_known, .selects RX0 yX0_known yX0_known, .initialized RX0, .code yX0_known cX0_known 2 (some .boolean), .fieldLink RX0 43 "CaseLine$Codes" "count" "I", .static yX6_within, .initialized RX6, .code yX6_within cX6_within 3 (some .boolean), .methodLink RX6 201 yX0_palletOfCode, .instanceMethod yX0_palletOfCode, .selects RX0 yX0_palletOfCode yX0_palletOfCode, .code yX0_palletOfCode cX0_palletOfCode 3 (some .int), .fieldLink RX0 11 "CaseLine$Codes" "boxOf" "[I", .fieldLink RX0 28 "CaseLine$Codes" "palletOf" "[I", .static yX6_isBox, .code yX6_isBox cX6_isBox 1 (some .boolean), .methodLink RX6 49 yX6_within] ++ wsX60 ++ wsX00)
def wsX6_box : List Cond := .code yX6_box cX6_box 3 (some .int) :: ([.fieldLink RX6 19 "CaseLine" "codes" "LCaseLine$Codes;", .fieldLink RX6 210 "CaseLine$Codes" "unitsIn" "[I", .fieldLink RX6 213 "CaseLine$Codes" "boxClosed" "[Z", .fieldLink RX6 217 "CaseLine$Codes" "palletOf" "[I", .methodLink RX6 160 yX6_isBox, .static yX6_isBox, .initialized RX6, .code yX6_isBox cX6_isBox 1 (some .boolean), .methodLink RX6 49 yX6_within, .static yX6_within, .code yX6_within cX6_within 3 (some .boolean), .methodLink RX6 220 yX0_leastIn, .instanceMethod yX0_leastIn, .selects RX0 yX0_leastIn yX0_leastIn, .initialized RX0, .code yX0_leastIn cX0_leastIn 3 (some .int), .fieldLink RX0 43 "CaseLine$Codes" "count" "I", .fieldLink RX0 11 "CaseLine$Codes" "boxOf" "[I", .methodLink RX6 223 yX0_greatestIn, .instanceMethod yX0_greatestIn, .selects RX0 yX0_greatestIn yX0_greatestIn, .code yX0_greatestIn cX0_greatestIn 3 (some .int)] ++ wsX60 ++ wsX00)
def wsX6_recall_r1 : List Cond := [Cond.fieldLink RX6 19 "CaseLine" "codes" "LCaseLine$Codes;", Cond.methodLink RX6 49 yX6_within, Cond.static yX6_within, Cond.initialized RX6, Cond.code yX6_within cX6_within 3 (some .boolean), Cond.methodLink RX6 226 yX0_boxesWith, Cond.instanceMethod yX0_boxesWith, Cond.selects RX0 yX0_boxesWith yX0_boxesWith, Cond.initialized RX0, Cond.code yX0_boxesWith cX0_boxesWith 4 (some .int), Cond.fieldLink RX0 43 "CaseLine$Codes" "count" "I", Cond.fieldLink RX0 15 "CaseLine$Codes" "lotOf" "[I", Cond.fieldLink RX0 11 "CaseLine$Codes" "boxOf" "[I", Cond.static yX6_isBox, Cond.code yX6_isBox cX6_isBox 1 (some .boolean), Cond.methodLink RX6 229 yX0_palletsWith, Cond.instanceMethod yX0_palletsWith, Cond.selects RX0 yX0_palletsWith yX0_palletsWith, Cond.code yX0_palletsWith cX0_palletsWith 5 (some .int), Cond.methodLink RX0 74 yX0_palletOfCode, Cond.instanceMethod yX0_palletOfCode, Cond.selects RX0 yX0_palletOfCode yX0_palletOfCode, Cond.code yX0_palletOfCode cX0_palletOfCode 3 (some .int), Cond.fieldLink RX0 28 "CaseLine$Codes" "palletOf" "[I"]
def wsX6_recall_r2 : List Cond := [Cond.static yX6_isPallet, Cond.code yX6_isPallet cX6_isPallet 1 (some .boolean), Cond.methodLink RX6 232 yX0_looseOf, Cond.instanceMethod yX0_looseOf, Cond.selects RX0 yX0_looseOf yX0_looseOf, Cond.code yX0_looseOf cX0_looseOf 4 (some .int)]
def wsX6_recall : List Cond := .code yX6_recall cX6_recall 3 (some .int) :: ((wsX6_recall_r1 ++ wsX6_recall_r2) ++ wsX60 ++ wsX00)
def wsX6_isSide : List Cond := .code yX6_isSide cX6_isSide 1 (some .boolean) :: ([.methodLink RX6 49 yX6_within, .static yX6_within, .initialized RX6, .code yX6_within cX6_within 3 (some .boolean)])
def wsX6_layer_r1 : List Cond := [Cond.fieldLink RX6 26 "CaseLine" "plan" "LCaseLine$Plan;", Cond.methodLink RX6 235 yX6_isSide, Cond.static yX6_isSide, Cond.initialized RX6, Cond.code yX6_isSide cX6_isSide 1 (some .boolean), Cond.methodLink RX6 49 yX6_within, Cond.static yX6_within, Cond.code yX6_within cX6_within 3 (some .boolean), Cond.methodLink RX6 238 yX4_make, Cond.instanceMethod yX4_make, Cond.selects RX4 yX4_make yX4_make, Cond.initialized RX4, Cond.code yX4_make cX4_make 5 (some .int), Cond.fieldLink RX4 24 "CaseLine$Plan" "x" "I", Cond.fieldLink RX4 28 "CaseLine$Plan" "y" "I", Cond.fieldLink RX4 31 "CaseLine$Plan" "a" "I", Cond.fieldLink RX4 34 "CaseLine$Plan" "b" "I", Cond.methodLink RX4 37 Lib.Math.min.name, Cond.static Lib.Math.min.name, Cond.initialized "java/lang/Math", Cond.code Lib.Math.min.name Lib.Math.min.code 2 (some .int), Cond.fieldLink RX4 43 "CaseLine$Plan" "narrow" "I", Cond.fieldLink RX4 46 "CaseLine$Plan" "made" "Z", Cond.methodLink RX4 50 yX4_findMost]
def wsX6_layer_r2 : List Cond := [Cond.instanceMethod yX4_findMost, Cond.selects RX4 yX4_findMost yX4_findMost, Cond.code yX4_findMost cX4_findMost 3 none, Cond.fieldLink RX4 11 "CaseLine$Plan" "most" "[I", Cond.methodLink RX4 62 yX4_mostIn, Cond.instanceMethod yX4_mostIn, Cond.selects RX4 yX4_mostIn yX4_mostIn, Cond.code yX4_mostIn cX4_mostIn 5 (some .int), Cond.methodLink RX4 73 Lib.Math.max.name, Cond.static Lib.Math.max.name, Cond.code Lib.Math.max.name Lib.Math.max.code 2 (some .int), Cond.methodLink RX4 65 yX4_fits, Cond.static yX4_fits, Cond.code yX4_fits cX4_fits 4 (some .boolean), Cond.methodLink RX4 69 yX4_byUprightCut, Cond.instanceMethod yX4_byUprightCut, Cond.selects RX4 yX4_byUprightCut yX4_byUprightCut, Cond.code yX4_byUprightCut cX4_byUprightCut 4 (some .int), Cond.methodLink RX4 56 yX4_mostOf, Cond.instanceMethod yX4_mostOf, Cond.selects RX4 yX4_mostOf yX4_mostOf, Cond.code yX4_mostOf cX4_mostOf 3 (some .int), Cond.methodLink RX4 76 yX4_byLevelCut, Cond.instanceMethod yX4_byLevelCut]
def wsX6_layer_r3 : List Cond := [Cond.selects RX4 yX4_byLevelCut yX4_byLevelCut, Cond.code yX4_byLevelCut cX4_byLevelCut 4 (some .int), Cond.methodLink RX4 79 yX4_mostByPinwheel, Cond.instanceMethod yX4_mostByPinwheel, Cond.selects RX4 yX4_mostByPinwheel yX4_mostByPinwheel, Cond.code yX4_mostByPinwheel cX4_mostByPinwheel 8 (some .int), Cond.methodLink RX4 82 yX4_byPinwheel, Cond.instanceMethod yX4_byPinwheel, Cond.selects RX4 yX4_byPinwheel yX4_byPinwheel, Cond.code yX4_byPinwheel cX4_byPinwheel 7 (some .int), Cond.methodLink RX4 53 yX4_layCases, Cond.instanceMethod yX4_layCases, Cond.selects RX4 yX4_layCases yX4_layCases, Cond.code yX4_layCases cX4_layCases 3 none, Cond.fieldLink RX4 59 "CaseLine$Plan" "places" "I", Cond.fieldLink RX4 86 "CaseLine$Plan" "parts" "I", Cond.fieldLink RX4 18 "CaseLine$Plan" "part" "[I", Cond.methodLink RX4 89 yX4_putPart, Cond.instanceMethod yX4_putPart, Cond.selects RX4 yX4_putPart yX4_putPart, Cond.code yX4_putPart cX4_putPart 6 none, Cond.methodLink RX4 93 yX4_layPart, Cond.instanceMethod yX4_layPart, Cond.selects RX4 yX4_layPart yX4_layPart]
def wsX6_layer_r4 : List Cond := [Cond.code yX4_layPart cX4_layPart 6 none, Cond.methodLink RX4 96 yX4_layCase, Cond.instanceMethod yX4_layCase, Cond.selects RX4 yX4_layCase yX4_layCase, Cond.code yX4_layCase cX4_layCase 5 none, Cond.fieldLink RX4 15 "CaseLine$Plan" "place" "[I", Cond.methodLink RX4 100 yX4_cutUpright, Cond.instanceMethod yX4_cutUpright, Cond.selects RX4 yX4_cutUpright yX4_cutUpright, Cond.code yX4_cutUpright cX4_cutUpright 6 (some .boolean), Cond.methodLink RX4 103 yX4_cutLevel, Cond.instanceMethod yX4_cutLevel, Cond.selects RX4 yX4_cutLevel yX4_cutLevel, Cond.code yX4_cutLevel cX4_cutLevel 6 (some .boolean), Cond.methodLink RX4 106 yX4_cutPinwheel, Cond.instanceMethod yX4_cutPinwheel, Cond.selects RX4 yX4_cutPinwheel yX4_cutPinwheel, Cond.code yX4_cutPinwheel cX4_cutPinwheel 9 none]
def wsX6_layer : List Cond := .code yX6_layer cX6_layer 5 (some .int) :: ((wsX6_layer_r1 ++ (wsX6_layer_r2 ++ (wsX6_layer_r3 ++ wsX6_layer_r4))) ++ wsX60 ++ wsX40)
def wsX6_planned : List Cond := .code yX6_planned cX6_planned 3 (some .int) :: ([.fieldLink RX6 26 "CaseLine" "plan" "LCaseLine$Plan;", .fieldLink RX6 242 "CaseLine$Plan" "made" "Z", .methodLink RX6 49 yX6_within, .static yX6_within, .initialized RX6, .code yX6_within cX6_within 3 (some .boolean), .methodLink RX6 246 yX4_numberOf, .instanceMethod yX4_numberOf, .selects RX4 yX4_numberOf yX4_numberOf, .initialized RX4, .code yX4_numberOf cX4_numberOf 3 (some .int), .fieldLink RX4 59 "CaseLine$Plan" "places" "I", .fieldLink RX4 15 "CaseLine$Plan" "place" "[I"] ++ wsX60 ++ wsX40)
def wsX6_holds_r1 : List Cond := [Cond.fieldLink RX6 26 "CaseLine" "plan" "LCaseLine$Plan;", Cond.fieldLink RX6 242 "CaseLine$Plan" "made" "Z", Cond.methodLink RX6 249 yX4_holding, Cond.instanceMethod yX4_holding, Cond.selects RX4 yX4_holding yX4_holding, Cond.initialized RX4, Cond.code yX4_holding cX4_holding 3 (some .int), Cond.fieldLink RX4 59 "CaseLine$Plan" "places" "I", Cond.methodLink RX4 109 yX4_markOwners, Cond.instanceMethod yX4_markOwners, Cond.selects RX4 yX4_markOwners yX4_markOwners, Cond.code yX4_markOwners cX4_markOwners 6 none, Cond.fieldLink RX4 21 "CaseLine$Plan" "owner" "[I", Cond.methodLink RX4 116 yJ7_fill_53178, Cond.static yJ7_fill_53178, Cond.initialized RJ7, Cond.code yJ7_fill_53178 cJ7_fill_53178 4 none, Cond.methodLink RX4 122 yX4_numberOf, Cond.instanceMethod yX4_numberOf, Cond.selects RX4 yX4_numberOf yX4_numberOf, Cond.code yX4_numberOf cX4_numberOf 3 (some .int), Cond.fieldLink RX4 15 "CaseLine$Plan" "place" "[I", Cond.methodLink RX4 125 yX4_isSquare, Cond.static yX4_isSquare]
def wsX6_holds_r2 : List Cond := [Cond.code yX4_isSquare cX4_isSquare 2 (some .boolean), Cond.static yX6_within, Cond.initialized RX6, Cond.code yX6_within cX6_within 3 (some .boolean), Cond.methodLink RX4 112 yX4_liesOnTwo, Cond.instanceMethod yX4_liesOnTwo, Cond.selects RX4 yX4_liesOnTwo yX4_liesOnTwo, Cond.code yX4_liesOnTwo cX4_liesOnTwo 8 (some .boolean), Cond.fieldLink RX4 24 "CaseLine$Plan" "x" "I", Cond.fieldLink RX4 28 "CaseLine$Plan" "y" "I", Cond.methodLink RX4 129 yX4_ownerOf, Cond.instanceMethod yX4_ownerOf, Cond.selects RX4 yX4_ownerOf yX4_ownerOf, Cond.code yX4_ownerOf cX4_ownerOf 3 (some .int)]
def wsX6_holds : List Cond := .code yX6_holds cX6_holds 1 (some .int) :: ((wsX6_holds_r1 ++ wsX6_holds_r2) ++ wsX60 ++ wsX40)
def wsX6_change : List Cond := .code yX6_change cX6_change 4 (some .int) :: ([.fieldLink RX6 33 "CaseLine" "tours" "LCaseLine$Tours;", .methodLink RX6 252 yX6_isKind, .static yX6_isKind, .initialized RX6, .code yX6_isKind cX6_isKind 1 (some .boolean), .methodLink RX6 49 yX6_within, .static yX6_within, .code yX6_within cX6_within 3 (some .boolean), .methodLink RX6 255 yX5_putChange, .instanceMethod yX5_putChange, .selects RX5 yX5_putChange yX5_putChange, .initialized RX5, .code yX5_putChange cX5_putChange 5 (some .int), .fieldLink RX5 11 "CaseLine$Tours" "minutesOf" "[I"] ++ wsX60 ++ wsX50)
def wsX6_stain : List Cond := .code yX6_stain cX6_stain 3 (some .int) :: ([.fieldLink RX6 33 "CaseLine" "tours" "LCaseLine$Tours;", .methodLink RX6 252 yX6_isKind, .static yX6_isKind, .initialized RX6, .code yX6_isKind cX6_isKind 1 (some .boolean), .methodLink RX6 49 yX6_within, .static yX6_within, .code yX6_within cX6_within 3 (some .boolean), .methodLink RX6 258 yX5_putStain, .instanceMethod yX5_putStain, .selects RX5 yX5_putStain yX5_putStain, .initialized RX5, .code yX5_putStain cX5_putStain 4 (some .int), .fieldLink RX5 15 "CaseLine$Tours" "stainOf" "[I"] ++ wsX60 ++ wsX50)
def wsX6_tour_r1 : List Cond := [Cond.fieldLink RX6 33 "CaseLine" "tours" "LCaseLine$Tours;", Cond.fieldLink RX6 46 "CaseLine" "rules" "[I", Cond.methodLink RX6 49 yX6_within, Cond.static yX6_within, Cond.initialized RX6, Cond.code yX6_within cX6_within 3 (some .boolean), Cond.methodLink RX6 252 yX6_isKind, Cond.static yX6_isKind, Cond.code yX6_isKind cX6_isKind 1 (some .boolean), Cond.methodLink RX6 261 yX5_isIn, Cond.static yX5_isIn, Cond.initialized RX5, Cond.code yX5_isIn cX5_isIn 2 (some .boolean), Cond.methodLink RX6 264 yX5_find, Cond.instanceMethod yX5_find, Cond.selects RX5 yX5_find yX5_find, Cond.code yX5_find cX5_find 5 none, Cond.fieldLink RX5 27 "CaseLine$Tours" "wanted" "I", Cond.fieldLink RX5 31 "CaseLine$Tours" "cleaning" "I", Cond.fieldLink RX5 18 "CaseLine$Tours" "rest" "[I", Cond.methodLink RX5 34 yX5_isIn, Cond.methodLink RX5 38 yX5_leastRest, Cond.instanceMethod yX5_leastRest, Cond.selects RX5 yX5_leastRest yX5_leastRest]
def wsX6_tour_r2 : List Cond := [Cond.code yX5_leastRest cX5_leastRest 4 (some .int), Cond.methodLink RX5 45 yX5_nextKind, Cond.instanceMethod yX5_nextKind, Cond.selects RX5 yX5_nextKind yX5_nextKind, Cond.code yX5_nextKind cX5_nextKind 5 (some .int), Cond.methodLink RX5 48 yX5_minutesBy, Cond.instanceMethod yX5_minutesBy, Cond.selects RX5 yX5_minutesBy yX5_minutesBy, Cond.code yX5_minutesBy cX5_minutesBy 4 (some .int), Cond.methodLink RX5 52 yX5_minutes, Cond.instanceMethod yX5_minutes, Cond.selects RX5 yX5_minutes yX5_minutes, Cond.code yX5_minutes cX5_minutes 4 (some .int), Cond.fieldLink RX5 15 "CaseLine$Tours" "stainOf" "[I", Cond.fieldLink RX5 11 "CaseLine$Tours" "minutesOf" "[I", Cond.methodLink RX5 42 yX5_restOf, Cond.instanceMethod yX5_restOf, Cond.selects RX5 yX5_restOf yX5_restOf, Cond.code yX5_restOf cX5_restOf 3 (some .int), Cond.methodLink RX6 268 yX5_least, Cond.instanceMethod yX5_least, Cond.selects RX5 yX5_least yX5_least, Cond.code yX5_least cX5_least 2 (some .int), Cond.methodLink RX6 271 yX5_kindAt]
def wsX6_tour_r3 : List Cond := [Cond.instanceMethod yX5_kindAt, Cond.selects RX5 yX5_kindAt yX5_kindAt, Cond.code yX5_kindAt cX5_kindAt 6 (some .int)]
def wsX6_tour : List Cond := .code yX6_tour cX6_tour 4 (some .int) :: ((wsX6_tour_r1 ++ (wsX6_tour_r2 ++ wsX6_tour_r3)) ++ wsX60 ++ wsX50)
def wsX6_scale : List Cond := .code yX6_scale cX6_scale 3 (some .int) :: ([.fieldLink RX6 19 "CaseLine" "codes" "LCaseLine$Codes;", .methodLink RX6 195 yX0_known, .instanceMethod yX0_known, .selects RX0 yX0_known yX0_known, .initialized RX0, .code yX0_known cX0_known 2 (some .boolean), .fieldLink RX0 43 "CaseLine$Codes" "count" "I", .static yX6_within, .initialized RX6, .code yX6_within cX6_within 3 (some .boolean), .methodLink RX6 49 yX6_within, .methodLink RX6 274 yX0_putWeight, .instanceMethod yX0_putWeight, .selects RX0 yX0_putWeight yX0_putWeight, .code yX0_putWeight cX0_putWeight 4 (some .int), .fieldLink RX0 18 "CaseLine$Codes" "weightOf" "[I"] ++ wsX60 ++ wsX00)
def wsX6_scales : List Cond := .code yX6_scales cX6_scales 2 (some .int) :: ([.fieldLink RX6 19 "CaseLine" "codes" "LCaseLine$Codes;", .fieldLink RX6 46 "CaseLine" "rules" "[I", .methodLink RX6 277 yX0_givenAway, .instanceMethod yX0_givenAway, .selects RX0 yX0_givenAway yX0_givenAway, .initialized RX0, .code yX0_givenAway cX0_givenAway 4 (some .int), .fieldLink RX0 43 "CaseLine$Codes" "count" "I", .fieldLink RX0 18 "CaseLine$Codes" "weightOf" "[I", .methodLink RX0 66 Lib.Math.max.name, .static Lib.Math.max.name, .initialized "java/lang/Math", .code Lib.Math.max.name Lib.Math.max.code 2 (some .int), .methodLink RX6 280 yX0_lighterThan, .instanceMethod yX0_lighterThan, .selects RX0 yX0_lighterThan yX0_lighterThan, .code yX0_lighterThan cX0_lighterThan 4 (some .int), .methodLink RX6 283 yX0_weighed, .instanceMethod yX0_weighed, .selects RX0 yX0_weighed yX0_weighed, .code yX0_weighed cX0_weighed 3 (some .int)] ++ wsX60 ++ wsX00)
def wsX7_begins : List Cond := .code yX7_begins cX7_begins 3 none :: ([.fieldLink RX7 7 "CaseLineModel" "machines" "I", .fieldLink RX7 13 "CaseLineModel" "pace" "[I", .fieldLink RX7 17 "CaseLineModel" "rejects" "[I", .fieldLink RX7 20 "CaseLineModel" "samples" "[I", .fieldLink RX7 23 "CaseLineModel" "room" "[I", .fieldLink RX7 26 "CaseLineModel" "gap" "[I", .fieldLink RX7 29 "CaseLineModel" "state" "[I", .fieldLink RX7 32 "CaseLineModel" "finished" "[I", .fieldLink RX7 35 "CaseLineModel" "rejected" "[I", .fieldLink RX7 38 "CaseLineModel" "sampled" "[I", .fieldLink RX7 41 "CaseLineModel" "ran" "[I", .fieldLink RX7 44 "CaseLineModel" "work" "[I", .fieldLink RX7 47 "CaseLineModel" "waiting" "[I", .fieldLink RX7 62 "CaseLineModel" "causes" "[I", .fieldLink RX7 109 "CaseLineModel" "faults" "I", .fieldLink RX7 112 "CaseLineModel" "tick" "I", .fieldLink RX7 115 "CaseLineModel" "stock" "I", .fieldLink RX7 118 "CaseLineModel" "taken" "I", .fieldLink RX7 121 "CaseLineModel" "good" "I", .fieldLink RX7 124 "CaseLineModel" "still" "I"] ++ wsX70)
def wsX7_init_r1 : List Cond := [Cond.methodLink RX7 1 objectInit, Cond.instanceMethod objectInit, Cond.code objectInit ⟨#[0xb1]⟩ 1 none, Cond.fieldLink RX7 7 "CaseLineModel" "machines" "I", Cond.arrayClass .int, Cond.fieldLink RX7 13 "CaseLineModel" "pace" "[I", Cond.fieldLink RX7 17 "CaseLineModel" "rejects" "[I", Cond.fieldLink RX7 20 "CaseLineModel" "samples" "[I", Cond.fieldLink RX7 23 "CaseLineModel" "room" "[I", Cond.fieldLink RX7 26 "CaseLineModel" "gap" "[I", Cond.fieldLink RX7 29 "CaseLineModel" "state" "[I", Cond.fieldLink RX7 32 "CaseLineModel" "finished" "[I", Cond.fieldLink RX7 35 "CaseLineModel" "rejected" "[I", Cond.fieldLink RX7 38 "CaseLineModel" "sampled" "[I", Cond.fieldLink RX7 41 "CaseLineModel" "ran" "[I", Cond.fieldLink RX7 44 "CaseLineModel" "work" "[I", Cond.fieldLink RX7 47 "CaseLineModel" "waiting" "[I", Cond.fieldLink RX7 50 "CaseLineModel" "firstReject" "[I", Cond.fieldLink RX7 53 "CaseLineModel" "faultOf" "[I", Cond.fieldLink RX7 56 "CaseLineModel" "faultA" "[I", Cond.fieldLink RX7 59 "CaseLineModel" "faultB" "[I", Cond.fieldLink RX7 62 "CaseLineModel" "causes" "[I", Cond.fieldLink RX7 65 "CaseLineModel" "lots" "[I", Cond.fieldLink RX7 68 "CaseLineModel" "caseOf" "[I"]
def wsX7_init_r2 : List Cond := [Cond.fieldLink RX7 71 "CaseLineModel" "weight" "[I", Cond.arrayClass .boolean, Cond.fieldLink RX7 74 "CaseLineModel" "isClosed" "[Z", Cond.fieldLink RX7 78 "CaseLineModel" "palletOf" "[I", Cond.fieldLink RX7 81 "CaseLineModel" "isSealed" "[Z", Cond.fieldLink RX7 84 "CaseLineModel" "rules" "[I", Cond.fieldLink RX7 87 "CaseLineModel" "change" "[I", Cond.fieldLink RX7 90 "CaseLineModel" "stains" "[I", Cond.fieldLink RX7 93 "CaseLineModel" "most" "[I", Cond.fieldLink RX7 96 "CaseLineModel" "plan" "[I", Cond.fieldLink RX7 99 "CaseLineModel" "pile" "[I", Cond.fieldLink RX7 102 "CaseLineModel" "rest" "[I", Cond.methodLink RX7 105 yX7_begins, Cond.instanceMethod yX7_begins, Cond.selects RX7 yX7_begins yX7_begins, Cond.initialized RX7, Cond.code yX7_begins cX7_begins 3 none, Cond.fieldLink RX7 109 "CaseLineModel" "faults" "I", Cond.fieldLink RX7 112 "CaseLineModel" "tick" "I", Cond.fieldLink RX7 115 "CaseLineModel" "stock" "I", Cond.fieldLink RX7 118 "CaseLineModel" "taken" "I", Cond.fieldLink RX7 121 "CaseLineModel" "good" "I", Cond.fieldLink RX7 124 "CaseLineModel" "still" "I"]
def wsX7_init : List Cond := .code yX7_init cX7_init 2 none :: ((wsX7_init_r1 ++ wsX7_init_r2) ++ wsX70)
def wsX7_in : List Cond := .code yX7_in cX7_in 3 (some .boolean) :: ([])
def wsX7_line_r1 : List Cond := [Cond.methodLink RX7 127 yX7_in, Cond.static yX7_in, Cond.initialized RX7, Cond.code yX7_in cX7_in 3 (some .boolean), Cond.methodLink RX7 105 yX7_begins, Cond.instanceMethod yX7_begins, Cond.selects RX7 yX7_begins yX7_begins, Cond.code yX7_begins cX7_begins 3 none, Cond.fieldLink RX7 7 "CaseLineModel" "machines" "I", Cond.fieldLink RX7 13 "CaseLineModel" "pace" "[I", Cond.fieldLink RX7 17 "CaseLineModel" "rejects" "[I", Cond.fieldLink RX7 20 "CaseLineModel" "samples" "[I", Cond.fieldLink RX7 23 "CaseLineModel" "room" "[I", Cond.fieldLink RX7 26 "CaseLineModel" "gap" "[I", Cond.fieldLink RX7 29 "CaseLineModel" "state" "[I", Cond.fieldLink RX7 32 "CaseLineModel" "finished" "[I", Cond.fieldLink RX7 35 "CaseLineModel" "rejected" "[I", Cond.fieldLink RX7 38 "CaseLineModel" "sampled" "[I", Cond.fieldLink RX7 41 "CaseLineModel" "ran" "[I", Cond.fieldLink RX7 44 "CaseLineModel" "work" "[I", Cond.fieldLink RX7 47 "CaseLineModel" "waiting" "[I", Cond.fieldLink RX7 62 "CaseLineModel" "causes" "[I", Cond.fieldLink RX7 109 "CaseLineModel" "faults" "I", Cond.fieldLink RX7 112 "CaseLineModel" "tick" "I"]
def wsX7_line_r2 : List Cond := [Cond.fieldLink RX7 115 "CaseLineModel" "stock" "I", Cond.fieldLink RX7 118 "CaseLineModel" "taken" "I", Cond.fieldLink RX7 121 "CaseLineModel" "good" "I", Cond.fieldLink RX7 124 "CaseLineModel" "still" "I"]
def wsX7_line : List Cond := .code yX7_line cX7_line 2 (some .int) :: ((wsX7_line_r1 ++ wsX7_line_r2) ++ wsX70)
def wsX7_isMachine : List Cond := .code yX7_isMachine cX7_isMachine 2 (some .boolean) :: ([.fieldLink RX7 7 "CaseLineModel" "machines" "I", .methodLink RX7 127 yX7_in, .static yX7_in, .initialized RX7, .code yX7_in cX7_in 3 (some .boolean)] ++ wsX70)
def wsX7_set : List Cond := .code yX7_set cX7_set 5 (some .int) :: ([.fieldLink RX7 7 "CaseLineModel" "machines" "I", .fieldLink RX7 26 "CaseLineModel" "gap" "[I", .fieldLink RX7 13 "CaseLineModel" "pace" "[I", .fieldLink RX7 17 "CaseLineModel" "rejects" "[I", .fieldLink RX7 20 "CaseLineModel" "samples" "[I", .fieldLink RX7 23 "CaseLineModel" "room" "[I", .methodLink RX7 131 yX7_isMachine, .instanceMethod yX7_isMachine, .selects RX7 yX7_isMachine yX7_isMachine, .initialized RX7, .code yX7_isMachine cX7_isMachine 2 (some .boolean), .methodLink RX7 127 yX7_in, .static yX7_in, .code yX7_in cX7_in 3 (some .boolean)] ++ wsX70)
def wsX7_fault : List Cond := .code yX7_fault cX7_fault 4 (some .int) :: ([.fieldLink RX7 112 "CaseLineModel" "tick" "I", .fieldLink RX7 109 "CaseLineModel" "faults" "I", .fieldLink RX7 53 "CaseLineModel" "faultOf" "[I", .fieldLink RX7 56 "CaseLineModel" "faultA" "[I", .fieldLink RX7 59 "CaseLineModel" "faultB" "[I", .methodLink RX7 131 yX7_isMachine, .instanceMethod yX7_isMachine, .selects RX7 yX7_isMachine yX7_isMachine, .initialized RX7, .code yX7_isMachine cX7_isMachine 2 (some .boolean), .fieldLink RX7 7 "CaseLineModel" "machines" "I", .methodLink RX7 127 yX7_in, .static yX7_in, .code yX7_in cX7_in 3 (some .boolean)] ++ wsX70)
def wsX7_supply : List Cond := .code yX7_supply cX7_supply 2 (some .int) :: ([.fieldLink RX7 115 "CaseLineModel" "stock" "I", .constant RX7 135 (100000), .methodLink RX7 127 yX7_in, .static yX7_in, .initialized RX7, .code yX7_in cX7_in 3 (some .boolean)] ++ wsX70)
def wsX7_lot : List Cond := .code yX7_lot cX7_lot 3 (some .int) :: ([.fieldLink RX7 136 "CaseLineModel" "lotNow" "I", .methodLink RX7 127 yX7_in, .static yX7_in, .initialized RX7, .code yX7_in cX7_in 3 (some .boolean)] ++ wsX70)
def wsX7_isFaulty : List Cond := .code yX7_isFaulty cX7_isFaulty 4 (some .boolean) :: ([.fieldLink RX7 109 "CaseLineModel" "faults" "I", .fieldLink RX7 53 "CaseLineModel" "faultOf" "[I", .fieldLink RX7 112 "CaseLineModel" "tick" "I", .fieldLink RX7 56 "CaseLineModel" "faultA" "[I", .fieldLink RX7 59 "CaseLineModel" "faultB" "[I", .methodLink RX7 127 yX7_in, .static yX7_in, .initialized RX7, .code yX7_in cX7_in 3 (some .boolean)] ++ wsX70)
def wsX7_finishes : List Cond := .code yX7_finishes cX7_finishes 2 none :: ([.fieldLink RX7 44 "CaseLineModel" "work" "[I", .fieldLink RX7 32 "CaseLineModel" "finished" "[I", .fieldLink RX7 17 "CaseLineModel" "rejects" "[I", .fieldLink RX7 35 "CaseLineModel" "rejected" "[I", .fieldLink RX7 50 "CaseLineModel" "firstReject" "[I", .fieldLink RX7 47 "CaseLineModel" "waiting" "[I", .fieldLink RX7 112 "CaseLineModel" "tick" "I", .fieldLink RX7 20 "CaseLineModel" "samples" "[I", .fieldLink RX7 38 "CaseLineModel" "sampled" "[I", .fieldLink RX7 7 "CaseLineModel" "machines" "I", .fieldLink RX7 121 "CaseLineModel" "good" "I", .fieldLink RX7 139 "CaseLineModel" "codes" "I", .fieldLink RX7 65 "CaseLineModel" "lots" "[I", .fieldLink RX7 136 "CaseLineModel" "lotNow" "I", .fieldLink RX7 68 "CaseLineModel" "caseOf" "[I", .fieldLink RX7 71 "CaseLineModel" "weight" "[I"] ++ wsX70)
def wsX7_takes : List Cond := .code yX7_takes cX7_takes 3 (some .boolean) :: ([.fieldLink RX7 115 "CaseLineModel" "stock" "I", .fieldLink RX7 118 "CaseLineModel" "taken" "I", .fieldLink RX7 26 "CaseLineModel" "gap" "[I"] ++ wsX70)
def wsX7_steps_r1 : List Cond := [Cond.fieldLink RX7 47 "CaseLineModel" "waiting" "[I", Cond.fieldLink RX7 112 "CaseLineModel" "tick" "I", Cond.fieldLink RX7 50 "CaseLineModel" "firstReject" "[I", Cond.fieldLink RX7 44 "CaseLineModel" "work" "[I", Cond.fieldLink RX7 26 "CaseLineModel" "gap" "[I", Cond.fieldLink RX7 23 "CaseLineModel" "room" "[I", Cond.fieldLink RX7 13 "CaseLineModel" "pace" "[I", Cond.fieldLink RX7 41 "CaseLineModel" "ran" "[I", Cond.methodLink RX7 142 yX7_isFaulty, Cond.instanceMethod yX7_isFaulty, Cond.selects RX7 yX7_isFaulty yX7_isFaulty, Cond.initialized RX7, Cond.code yX7_isFaulty cX7_isFaulty 4 (some .boolean), Cond.fieldLink RX7 109 "CaseLineModel" "faults" "I", Cond.fieldLink RX7 53 "CaseLineModel" "faultOf" "[I", Cond.fieldLink RX7 56 "CaseLineModel" "faultA" "[I", Cond.fieldLink RX7 59 "CaseLineModel" "faultB" "[I", Cond.methodLink RX7 127 yX7_in, Cond.static yX7_in, Cond.code yX7_in cX7_in 3 (some .boolean), Cond.methodLink RX7 145 yX7_takes, Cond.instanceMethod yX7_takes, Cond.selects RX7 yX7_takes yX7_takes, Cond.code yX7_takes cX7_takes 3 (some .boolean)]
def wsX7_steps_r2 : List Cond := [Cond.fieldLink RX7 115 "CaseLineModel" "stock" "I", Cond.fieldLink RX7 118 "CaseLineModel" "taken" "I", Cond.methodLink RX7 148 yX7_finishes, Cond.instanceMethod yX7_finishes, Cond.selects RX7 yX7_finishes yX7_finishes, Cond.code yX7_finishes cX7_finishes 2 none, Cond.fieldLink RX7 32 "CaseLineModel" "finished" "[I", Cond.fieldLink RX7 17 "CaseLineModel" "rejects" "[I", Cond.fieldLink RX7 35 "CaseLineModel" "rejected" "[I", Cond.fieldLink RX7 20 "CaseLineModel" "samples" "[I", Cond.fieldLink RX7 38 "CaseLineModel" "sampled" "[I", Cond.fieldLink RX7 7 "CaseLineModel" "machines" "I", Cond.fieldLink RX7 121 "CaseLineModel" "good" "I", Cond.fieldLink RX7 139 "CaseLineModel" "codes" "I", Cond.fieldLink RX7 65 "CaseLineModel" "lots" "[I", Cond.fieldLink RX7 136 "CaseLineModel" "lotNow" "I", Cond.fieldLink RX7 68 "CaseLineModel" "caseOf" "[I", Cond.fieldLink RX7 71 "CaseLineModel" "weight" "[I"]
def wsX7_steps : List Cond := .code yX7_steps cX7_steps 2 (some .int) :: ((wsX7_steps_r1 ++ wsX7_steps_r2) ++ wsX70)
def wsX7_passes_r1 : List Cond := [Cond.fieldLink RX7 7 "CaseLineModel" "machines" "I", Cond.fieldLink RX7 29 "CaseLineModel" "state" "[I", Cond.fieldLink RX7 124 "CaseLineModel" "still" "I", Cond.fieldLink RX7 62 "CaseLineModel" "causes" "[I", Cond.fieldLink RX7 112 "CaseLineModel" "tick" "I", Cond.methodLink RX7 151 yX7_steps, Cond.instanceMethod yX7_steps, Cond.selects RX7 yX7_steps yX7_steps, Cond.initialized RX7, Cond.code yX7_steps cX7_steps 2 (some .int), Cond.fieldLink RX7 47 "CaseLineModel" "waiting" "[I", Cond.fieldLink RX7 50 "CaseLineModel" "firstReject" "[I", Cond.fieldLink RX7 44 "CaseLineModel" "work" "[I", Cond.fieldLink RX7 26 "CaseLineModel" "gap" "[I", Cond.fieldLink RX7 23 "CaseLineModel" "room" "[I", Cond.fieldLink RX7 13 "CaseLineModel" "pace" "[I", Cond.fieldLink RX7 41 "CaseLineModel" "ran" "[I", Cond.methodLink RX7 142 yX7_isFaulty, Cond.instanceMethod yX7_isFaulty, Cond.selects RX7 yX7_isFaulty yX7_isFaulty, Cond.code yX7_isFaulty cX7_isFaulty 4 (some .boolean), Cond.fieldLink RX7 109 "CaseLineModel" "faults" "I", Cond.fieldLink RX7 53 "CaseLineModel" "faultOf" "[I", Cond.fieldLink RX7 56 "CaseLineModel" "faultA" "[I"]
def wsX7_passes_r2 : List Cond := [Cond.fieldLink RX7 59 "CaseLineModel" "faultB" "[I", Cond.methodLink RX7 127 yX7_in, Cond.static yX7_in, Cond.code yX7_in cX7_in 3 (some .boolean), Cond.methodLink RX7 145 yX7_takes, Cond.instanceMethod yX7_takes, Cond.selects RX7 yX7_takes yX7_takes, Cond.code yX7_takes cX7_takes 3 (some .boolean), Cond.fieldLink RX7 115 "CaseLineModel" "stock" "I", Cond.fieldLink RX7 118 "CaseLineModel" "taken" "I", Cond.methodLink RX7 148 yX7_finishes, Cond.instanceMethod yX7_finishes, Cond.selects RX7 yX7_finishes yX7_finishes, Cond.code yX7_finishes cX7_finishes 2 none, Cond.fieldLink RX7 32 "CaseLineModel" "finished" "[I", Cond.fieldLink RX7 17 "CaseLineModel" "rejects" "[I", Cond.fieldLink RX7 35 "CaseLineModel" "rejected" "[I", Cond.fieldLink RX7 20 "CaseLineModel" "samples" "[I", Cond.fieldLink RX7 38 "CaseLineModel" "sampled" "[I", Cond.fieldLink RX7 121 "CaseLineModel" "good" "I", Cond.fieldLink RX7 139 "CaseLineModel" "codes" "I", Cond.fieldLink RX7 65 "CaseLineModel" "lots" "[I", Cond.fieldLink RX7 136 "CaseLineModel" "lotNow" "I", Cond.fieldLink RX7 68 "CaseLineModel" "caseOf" "[I"]
def wsX7_passes_r3 : List Cond := [Cond.fieldLink RX7 71 "CaseLineModel" "weight" "[I"]
def wsX7_passes : List Cond := .code yX7_passes cX7_passes 2 none :: ((wsX7_passes_r1 ++ (wsX7_passes_r2 ++ wsX7_passes_r3)) ++ wsX70)
def wsX7_ticks_r1 : List Cond := [Cond.fieldLink RX7 112 "CaseLineModel" "tick" "I", Cond.methodLink RX7 127 yX7_in, Cond.static yX7_in, Cond.initialized RX7, Cond.code yX7_in cX7_in 3 (some .boolean), Cond.methodLink RX7 155 yX7_passes, Cond.instanceMethod yX7_passes, Cond.selects RX7 yX7_passes yX7_passes, Cond.code yX7_passes cX7_passes 2 none, Cond.fieldLink RX7 7 "CaseLineModel" "machines" "I", Cond.fieldLink RX7 29 "CaseLineModel" "state" "[I", Cond.fieldLink RX7 124 "CaseLineModel" "still" "I", Cond.fieldLink RX7 62 "CaseLineModel" "causes" "[I", Cond.methodLink RX7 151 yX7_steps, Cond.instanceMethod yX7_steps, Cond.selects RX7 yX7_steps yX7_steps, Cond.code yX7_steps cX7_steps 2 (some .int), Cond.fieldLink RX7 47 "CaseLineModel" "waiting" "[I", Cond.fieldLink RX7 50 "CaseLineModel" "firstReject" "[I", Cond.fieldLink RX7 44 "CaseLineModel" "work" "[I", Cond.fieldLink RX7 26 "CaseLineModel" "gap" "[I", Cond.fieldLink RX7 23 "CaseLineModel" "room" "[I", Cond.fieldLink RX7 13 "CaseLineModel" "pace" "[I", Cond.fieldLink RX7 41 "CaseLineModel" "ran" "[I"]
def wsX7_ticks_r2 : List Cond := [Cond.methodLink RX7 142 yX7_isFaulty, Cond.instanceMethod yX7_isFaulty, Cond.selects RX7 yX7_isFaulty yX7_isFaulty, Cond.code yX7_isFaulty cX7_isFaulty 4 (some .boolean), Cond.fieldLink RX7 109 "CaseLineModel" "faults" "I", Cond.fieldLink RX7 53 "CaseLineModel" "faultOf" "[I", Cond.fieldLink RX7 56 "CaseLineModel" "faultA" "[I", Cond.fieldLink RX7 59 "CaseLineModel" "faultB" "[I", Cond.methodLink RX7 145 yX7_takes, Cond.instanceMethod yX7_takes, Cond.selects RX7 yX7_takes yX7_takes, Cond.code yX7_takes cX7_takes 3 (some .boolean), Cond.fieldLink RX7 115 "CaseLineModel" "stock" "I", Cond.fieldLink RX7 118 "CaseLineModel" "taken" "I", Cond.methodLink RX7 148 yX7_finishes, Cond.instanceMethod yX7_finishes, Cond.selects RX7 yX7_finishes yX7_finishes, Cond.code yX7_finishes cX7_finishes 2 none, Cond.fieldLink RX7 32 "CaseLineModel" "finished" "[I", Cond.fieldLink RX7 17 "CaseLineModel" "rejects" "[I", Cond.fieldLink RX7 35 "CaseLineModel" "rejected" "[I", Cond.fieldLink RX7 20 "CaseLineModel" "samples" "[I", Cond.fieldLink RX7 38 "CaseLineModel" "sampled" "[I", Cond.fieldLink RX7 121 "CaseLineModel" "good" "I"]
def wsX7_ticks_r3 : List Cond := [Cond.fieldLink RX7 139 "CaseLineModel" "codes" "I", Cond.fieldLink RX7 65 "CaseLineModel" "lots" "[I", Cond.fieldLink RX7 136 "CaseLineModel" "lotNow" "I", Cond.fieldLink RX7 68 "CaseLineModel" "caseOf" "[I", Cond.fieldLink RX7 71 "CaseLineModel" "weight" "[I"]
def wsX7_ticks : List Cond := .code yX7_ticks cX7_ticks 3 (some .int) :: ((wsX7_ticks_r1 ++ (wsX7_ticks_r2 ++ wsX7_ticks_r3)) ++ wsX70)
def wsX7_confirm : List Cond := .code yX7_confirm cX7_confirm 3 (some .int) :: ([.fieldLink RX7 47 "CaseLineModel" "waiting" "[I", .methodLink RX7 131 yX7_isMachine, .instanceMethod yX7_isMachine, .selects RX7 yX7_isMachine yX7_isMachine, .initialized RX7, .code yX7_isMachine cX7_isMachine 2 (some .boolean), .fieldLink RX7 7 "CaseLineModel" "machines" "I", .methodLink RX7 127 yX7_in, .static yX7_in, .code yX7_in cX7_in 3 (some .boolean)] ++ wsX70)
def wsX7_about : List Cond := .code yX7_about cX7_about 3 (some .int) :: ([.fieldLink RX7 29 "CaseLineModel" "state" "[I", .fieldLink RX7 32 "CaseLineModel" "finished" "[I", .fieldLink RX7 35 "CaseLineModel" "rejected" "[I", .fieldLink RX7 38 "CaseLineModel" "sampled" "[I", .fieldLink RX7 44 "CaseLineModel" "work" "[I", .fieldLink RX7 26 "CaseLineModel" "gap" "[I", .fieldLink RX7 47 "CaseLineModel" "waiting" "[I", .fieldLink RX7 41 "CaseLineModel" "ran" "[I", .methodLink RX7 131 yX7_isMachine, .instanceMethod yX7_isMachine, .selects RX7 yX7_isMachine yX7_isMachine, .initialized RX7, .code yX7_isMachine cX7_isMachine 2 (some .boolean), .fieldLink RX7 7 "CaseLineModel" "machines" "I", .methodLink RX7 127 yX7_in, .static yX7_in, .code yX7_in cX7_in 3 (some .boolean)] ++ wsX70)
def wsX7_cause : List Cond := .code yX7_cause cX7_cause 2 (some .int) :: ([.fieldLink RX7 62 "CaseLineModel" "causes" "[I", .methodLink RX7 127 yX7_in, .static yX7_in, .initialized RX7, .code yX7_in cX7_in 3 (some .boolean)] ++ wsX70)
def wsX7_book : List Cond := .code yX7_book cX7_book 6 (some .int) :: ([.fieldLink RX7 7 "CaseLineModel" "machines" "I", .fieldLink RX7 35 "CaseLineModel" "rejected" "[I", .fieldLink RX7 38 "CaseLineModel" "sampled" "[I", .fieldLink RX7 26 "CaseLineModel" "gap" "[I", .fieldLink RX7 44 "CaseLineModel" "work" "[I", .fieldLink RX7 112 "CaseLineModel" "tick" "I", .fieldLink RX7 115 "CaseLineModel" "stock" "I", .fieldLink RX7 118 "CaseLineModel" "taken" "I", .fieldLink RX7 121 "CaseLineModel" "good" "I", .fieldLink RX7 124 "CaseLineModel" "still" "I"] ++ wsX70)
def wsX7_isCase : List Cond := .code yX7_isCase cX7_isCase 1 (some .boolean) :: ([.methodLink RX7 127 yX7_in, .static yX7_in, .initialized RX7, .code yX7_in cX7_in 3 (some .boolean)])
def wsX7_isPallet : List Cond := .code yX7_isPallet cX7_isPallet 1 (some .boolean) :: ([.methodLink RX7 127 yX7_in, .static yX7_in, .initialized RX7, .code yX7_in cX7_in 3 (some .boolean)])
def wsX7_isCode : List Cond := .code yX7_isCode cX7_isCode 2 (some .boolean) :: ([.fieldLink RX7 139 "CaseLineModel" "codes" "I", .methodLink RX7 127 yX7_in, .static yX7_in, .initialized RX7, .code yX7_in cX7_in 3 (some .boolean)] ++ wsX70)
def wsX7_units : List Cond := .code yX7_units cX7_units 4 (some .int) :: ([.fieldLink RX7 139 "CaseLineModel" "codes" "I", .fieldLink RX7 68 "CaseLineModel" "caseOf" "[I"] ++ wsX70)
def wsX7_casesOn : List Cond := .code yX7_casesOn cX7_casesOn 4 (some .int) :: ([.fieldLink RX7 78 "CaseLineModel" "palletOf" "[I"] ++ wsX70)
def wsX7_rule : List Cond := .code yX7_rule cX7_rule 4 (some .int) :: ([.fieldLink RX7 84 "CaseLineModel" "rules" "[I", .methodLink RX7 127 yX7_in, .static yX7_in, .initialized RX7, .code yX7_in cX7_in 3 (some .boolean), .methodLink RX7 158 yX7_units, .instanceMethod yX7_units, .selects RX7 yX7_units yX7_units, .code yX7_units cX7_units 4 (some .int), .fieldLink RX7 139 "CaseLineModel" "codes" "I", .fieldLink RX7 68 "CaseLineModel" "caseOf" "[I", .methodLink RX7 161 yX7_casesOn, .instanceMethod yX7_casesOn, .selects RX7 yX7_casesOn yX7_casesOn, .code yX7_casesOn cX7_casesOn 4 (some .int), .fieldLink RX7 78 "CaseLineModel" "palletOf" "[I"] ++ wsX70)
def wsX7_pack : List Cond := .code yX7_pack cX7_pack 3 (some .int) :: ([.fieldLink RX7 68 "CaseLineModel" "caseOf" "[I", .fieldLink RX7 74 "CaseLineModel" "isClosed" "[Z", .fieldLink RX7 84 "CaseLineModel" "rules" "[I", .methodLink RX7 127 yX7_in, .static yX7_in, .initialized RX7, .code yX7_in cX7_in 3 (some .boolean), .methodLink RX7 164 yX7_isCase, .static yX7_isCase, .code yX7_isCase cX7_isCase 1 (some .boolean), .methodLink RX7 167 yX7_isCode, .instanceMethod yX7_isCode, .selects RX7 yX7_isCode yX7_isCode, .code yX7_isCode cX7_isCode 2 (some .boolean), .fieldLink RX7 139 "CaseLineModel" "codes" "I", .methodLink RX7 158 yX7_units, .instanceMethod yX7_units, .selects RX7 yX7_units yX7_units, .code yX7_units cX7_units 4 (some .int)] ++ wsX70)
def wsX7_close : List Cond := .code yX7_close cX7_close 2 (some .int) :: ([.fieldLink RX7 74 "CaseLineModel" "isClosed" "[Z", .fieldLink RX7 84 "CaseLineModel" "rules" "[I", .methodLink RX7 164 yX7_isCase, .static yX7_isCase, .initialized RX7, .code yX7_isCase cX7_isCase 1 (some .boolean), .methodLink RX7 127 yX7_in, .static yX7_in, .code yX7_in cX7_in 3 (some .boolean), .methodLink RX7 158 yX7_units, .instanceMethod yX7_units, .selects RX7 yX7_units yX7_units, .code yX7_units cX7_units 4 (some .int), .fieldLink RX7 139 "CaseLineModel" "codes" "I", .fieldLink RX7 68 "CaseLineModel" "caseOf" "[I"] ++ wsX70)
def wsX7_leastIn : List Cond := .code yX7_leastIn cX7_leastIn 4 (some .int) :: ([.fieldLink RX7 139 "CaseLineModel" "codes" "I", .fieldLink RX7 68 "CaseLineModel" "caseOf" "[I"] ++ wsX70)
def wsX7_greatestIn : List Cond := .code yX7_greatestIn cX7_greatestIn 4 (some .int) :: ([.fieldLink RX7 139 "CaseLineModel" "codes" "I", .fieldLink RX7 68 "CaseLineModel" "caseOf" "[I"] ++ wsX70)
def wsX7_weigh : List Cond := .code yX7_weigh cX7_weigh 7 (some .int) :: ([.constant RX7 170 (1000000), .fieldLink RX7 84 "CaseLineModel" "rules" "[I", .fieldLink RX7 74 "CaseLineModel" "isClosed" "[Z", .fieldLink RX7 68 "CaseLineModel" "caseOf" "[I", .methodLink RX7 164 yX7_isCase, .static yX7_isCase, .initialized RX7, .code yX7_isCase cX7_isCase 1 (some .boolean), .methodLink RX7 127 yX7_in, .static yX7_in, .code yX7_in cX7_in 3 (some .boolean), .methodLink RX7 158 yX7_units, .instanceMethod yX7_units, .selects RX7 yX7_units yX7_units, .code yX7_units cX7_units 4 (some .int), .fieldLink RX7 139 "CaseLineModel" "codes" "I", .methodLink RX7 171 yX7_leastIn, .instanceMethod yX7_leastIn, .selects RX7 yX7_leastIn yX7_leastIn, .code yX7_leastIn cX7_leastIn 4 (some .int), .methodLink RX7 174 yX7_greatestIn, .instanceMethod yX7_greatestIn, .selects RX7 yX7_greatestIn yX7_greatestIn, .code yX7_greatestIn cX7_greatestIn 4 (some .int)] ++ wsX70)
def wsX7_stack : List Cond := .code yX7_stack cX7_stack 3 (some .int) :: ([.fieldLink RX7 74 "CaseLineModel" "isClosed" "[Z", .fieldLink RX7 78 "CaseLineModel" "palletOf" "[I", .fieldLink RX7 81 "CaseLineModel" "isSealed" "[Z", .fieldLink RX7 84 "CaseLineModel" "rules" "[I", .methodLink RX7 164 yX7_isCase, .static yX7_isCase, .initialized RX7, .code yX7_isCase cX7_isCase 1 (some .boolean), .methodLink RX7 127 yX7_in, .static yX7_in, .code yX7_in cX7_in 3 (some .boolean), .methodLink RX7 177 yX7_isPallet, .static yX7_isPallet, .code yX7_isPallet cX7_isPallet 1 (some .boolean), .methodLink RX7 161 yX7_casesOn, .instanceMethod yX7_casesOn, .selects RX7 yX7_casesOn yX7_casesOn, .code yX7_casesOn cX7_casesOn 4 (some .int)] ++ wsX70)
def wsX7_seal : List Cond := .code yX7_seal cX7_seal 3 (some .int) :: ([.fieldLink RX7 81 "CaseLineModel" "isSealed" "[Z", .methodLink RX7 177 yX7_isPallet, .static yX7_isPallet, .initialized RX7, .code yX7_isPallet cX7_isPallet 1 (some .boolean), .methodLink RX7 127 yX7_in, .static yX7_in, .code yX7_in cX7_in 3 (some .boolean), .methodLink RX7 161 yX7_casesOn, .instanceMethod yX7_casesOn, .selects RX7 yX7_casesOn yX7_casesOn, .code yX7_casesOn cX7_casesOn 4 (some .int), .fieldLink RX7 78 "CaseLineModel" "palletOf" "[I"] ++ wsX70)
def wsX7_breakUp : List Cond := .code yX7_breakUp cX7_breakUp 5 (some .int) :: ([.fieldLink RX7 78 "CaseLineModel" "palletOf" "[I", .fieldLink RX7 139 "CaseLineModel" "codes" "I", .fieldLink RX7 68 "CaseLineModel" "caseOf" "[I", .fieldLink RX7 74 "CaseLineModel" "isClosed" "[Z", .fieldLink RX7 81 "CaseLineModel" "isSealed" "[Z", .methodLink RX7 127 yX7_in, .static yX7_in, .initialized RX7, .code yX7_in cX7_in 3 (some .boolean), .methodLink RX7 164 yX7_isCase, .static yX7_isCase, .code yX7_isCase cX7_isCase 1 (some .boolean), .methodLink RX7 177 yX7_isPallet, .static yX7_isPallet, .code yX7_isPallet cX7_isPallet 1 (some .boolean), .methodLink RX7 158 yX7_units, .instanceMethod yX7_units, .selects RX7 yX7_units yX7_units, .code yX7_units cX7_units 4 (some .int), .methodLink RX7 161 yX7_casesOn, .instanceMethod yX7_casesOn, .selects RX7 yX7_casesOn yX7_casesOn, .code yX7_casesOn cX7_casesOn 4 (some .int)] ++ wsX70)
def wsX7_code : List Cond := .code yX7_code cX7_code 4 (some .int) :: ([.fieldLink RX7 68 "CaseLineModel" "caseOf" "[I", .fieldLink RX7 78 "CaseLineModel" "palletOf" "[I", .fieldLink RX7 65 "CaseLineModel" "lots" "[I", .fieldLink RX7 71 "CaseLineModel" "weight" "[I", .methodLink RX7 167 yX7_isCode, .instanceMethod yX7_isCode, .selects RX7 yX7_isCode yX7_isCode, .initialized RX7, .code yX7_isCode cX7_isCode 2 (some .boolean), .fieldLink RX7 139 "CaseLineModel" "codes" "I", .methodLink RX7 127 yX7_in, .static yX7_in, .code yX7_in cX7_in 3 (some .boolean)] ++ wsX70)
def wsX7_box : List Cond := .code yX7_box cX7_box 3 (some .int) :: ([.fieldLink RX7 74 "CaseLineModel" "isClosed" "[Z", .fieldLink RX7 78 "CaseLineModel" "palletOf" "[I", .methodLink RX7 164 yX7_isCase, .static yX7_isCase, .initialized RX7, .code yX7_isCase cX7_isCase 1 (some .boolean), .methodLink RX7 127 yX7_in, .static yX7_in, .code yX7_in cX7_in 3 (some .boolean), .methodLink RX7 158 yX7_units, .instanceMethod yX7_units, .selects RX7 yX7_units yX7_units, .code yX7_units cX7_units 4 (some .int), .fieldLink RX7 139 "CaseLineModel" "codes" "I", .fieldLink RX7 68 "CaseLineModel" "caseOf" "[I", .methodLink RX7 171 yX7_leastIn, .instanceMethod yX7_leastIn, .selects RX7 yX7_leastIn yX7_leastIn, .code yX7_leastIn cX7_leastIn 4 (some .int), .methodLink RX7 174 yX7_greatestIn, .instanceMethod yX7_greatestIn, .selects RX7 yX7_greatestIn yX7_greatestIn, .code yX7_greatestIn cX7_greatestIn 4 (some .int)] ++ wsX70)
def wsX7_recall : List Cond := .code yX7_recall cX7_recall 8 (some .int) :: ([.fieldLink RX7 139 "CaseLineModel" "codes" "I", .fieldLink RX7 65 "CaseLineModel" "lots" "[I", .fieldLink RX7 68 "CaseLineModel" "caseOf" "[I", .fieldLink RX7 78 "CaseLineModel" "palletOf" "[I", .methodLink RX7 127 yX7_in, .static yX7_in, .initialized RX7, .code yX7_in cX7_in 3 (some .boolean)] ++ wsX70)
def wsX7_mostOf : List Cond := .code yX7_mostOf cX7_mostOf 3 (some .int) :: ([.fieldLink RX7 93 "CaseLineModel" "most" "[I"] ++ wsX70)
def wsX7_wheel : List Cond := .code yX7_wheel cX7_wheel 7 (some .int) :: ([.methodLink RX7 180 yX7_mostOf, .instanceMethod yX7_mostOf, .selects RX7 yX7_mostOf yX7_mostOf, .initialized RX7, .code yX7_mostOf cX7_mostOf 3 (some .int), .fieldLink RX7 93 "CaseLineModel" "most" "[I"] ++ wsX70)
def wsX7_best : List Cond := .code yX7_best cX7_best 11 (some .int) :: ([.methodLink RX7 180 yX7_mostOf, .instanceMethod yX7_mostOf, .selects RX7 yX7_mostOf yX7_mostOf, .initialized RX7, .code yX7_mostOf cX7_mostOf 3 (some .int), .fieldLink RX7 93 "CaseLineModel" "most" "[I", .methodLink RX7 184 yX7_wheel, .instanceMethod yX7_wheel, .selects RX7 yX7_wheel yX7_wheel, .code yX7_wheel cX7_wheel 7 (some .int)] ++ wsX70)
def wsX7_piles : List Cond := .code yX7_piles cX7_piles 5 none :: ([.fieldLink RX7 99 "CaseLineModel" "pile" "[I", .fieldLink RX7 188 "CaseLineModel" "piled" "I"] ++ wsX70)
def wsX7_cuts : List Cond := .code yX7_cuts cX7_cuts 7 (some .boolean) :: ([.methodLink RX7 180 yX7_mostOf, .instanceMethod yX7_mostOf, .selects RX7 yX7_mostOf yX7_mostOf, .initialized RX7, .code yX7_mostOf cX7_mostOf 3 (some .int), .fieldLink RX7 93 "CaseLineModel" "most" "[I", .methodLink RX7 204 yX7_piles, .instanceMethod yX7_piles, .selects RX7 yX7_piles yX7_piles, .code yX7_piles cX7_piles 5 none, .fieldLink RX7 99 "CaseLineModel" "pile" "[I", .fieldLink RX7 188 "CaseLineModel" "piled" "I"] ++ wsX70)
def wsX7_wheels : List Cond := .code yX7_wheels cX7_wheels 10 none :: ([.methodLink RX7 184 yX7_wheel, .instanceMethod yX7_wheel, .selects RX7 yX7_wheel yX7_wheel, .initialized RX7, .code yX7_wheel cX7_wheel 7 (some .int), .methodLink RX7 180 yX7_mostOf, .instanceMethod yX7_mostOf, .selects RX7 yX7_mostOf yX7_mostOf, .code yX7_mostOf cX7_mostOf 3 (some .int), .fieldLink RX7 93 "CaseLineModel" "most" "[I", .methodLink RX7 204 yX7_piles, .instanceMethod yX7_piles, .selects RX7 yX7_piles yX7_piles, .code yX7_piles cX7_piles 5 none, .fieldLink RX7 99 "CaseLineModel" "pile" "[I", .fieldLink RX7 188 "CaseLineModel" "piled" "I"] ++ wsX70)
def wsX7_plans_r1 : List Cond := [Cond.fieldLink RX7 96 "CaseLineModel" "plan" "[I", Cond.fieldLink RX7 201 "CaseLineModel" "plannedMany" "I", Cond.methodLink RX7 180 yX7_mostOf, Cond.instanceMethod yX7_mostOf, Cond.selects RX7 yX7_mostOf yX7_mostOf, Cond.initialized RX7, Cond.code yX7_mostOf cX7_mostOf 3 (some .int), Cond.fieldLink RX7 93 "CaseLineModel" "most" "[I", Cond.methodLink RX7 212 yX7_cuts, Cond.instanceMethod yX7_cuts, Cond.selects RX7 yX7_cuts yX7_cuts, Cond.code yX7_cuts cX7_cuts 7 (some .boolean), Cond.methodLink RX7 204 yX7_piles, Cond.instanceMethod yX7_piles, Cond.selects RX7 yX7_piles yX7_piles, Cond.code yX7_piles cX7_piles 5 none, Cond.fieldLink RX7 99 "CaseLineModel" "pile" "[I", Cond.fieldLink RX7 188 "CaseLineModel" "piled" "I", Cond.methodLink RX7 216 yX7_wheels, Cond.instanceMethod yX7_wheels, Cond.selects RX7 yX7_wheels yX7_wheels, Cond.code yX7_wheels cX7_wheels 10 none, Cond.methodLink RX7 184 yX7_wheel, Cond.instanceMethod yX7_wheel]
def wsX7_plans_r2 : List Cond := [Cond.selects RX7 yX7_wheel yX7_wheel, Cond.code yX7_wheel cX7_wheel 7 (some .int)]
def wsX7_plans : List Cond := .code yX7_plans cX7_plans 9 none :: ((wsX7_plans_r1 ++ wsX7_plans_r2) ++ wsX70)
def wsX7_layer_r1 : List Cond := [Cond.fieldLink RX7 93 "CaseLineModel" "most" "[I", Cond.fieldLink RX7 195 "CaseLineModel" "layerX" "I", Cond.fieldLink RX7 198 "CaseLineModel" "layerY" "I", Cond.fieldLink RX7 201 "CaseLineModel" "plannedMany" "I", Cond.fieldLink RX7 188 "CaseLineModel" "piled" "I", Cond.fieldLink RX7 99 "CaseLineModel" "pile" "[I", Cond.methodLink RX7 127 yX7_in, Cond.static yX7_in, Cond.initialized RX7, Cond.code yX7_in cX7_in 3 (some .boolean), Cond.methodLink RX7 191 yX7_best, Cond.instanceMethod yX7_best, Cond.selects RX7 yX7_best yX7_best, Cond.code yX7_best cX7_best 11 (some .int), Cond.methodLink RX7 180 yX7_mostOf, Cond.instanceMethod yX7_mostOf, Cond.selects RX7 yX7_mostOf yX7_mostOf, Cond.code yX7_mostOf cX7_mostOf 3 (some .int), Cond.methodLink RX7 184 yX7_wheel, Cond.instanceMethod yX7_wheel, Cond.selects RX7 yX7_wheel yX7_wheel, Cond.code yX7_wheel cX7_wheel 7 (some .int), Cond.methodLink RX7 204 yX7_piles, Cond.instanceMethod yX7_piles]
def wsX7_layer_r2 : List Cond := [Cond.selects RX7 yX7_piles yX7_piles, Cond.code yX7_piles cX7_piles 5 none, Cond.methodLink RX7 208 yX7_plans, Cond.instanceMethod yX7_plans, Cond.selects RX7 yX7_plans yX7_plans, Cond.code yX7_plans cX7_plans 9 none, Cond.fieldLink RX7 96 "CaseLineModel" "plan" "[I", Cond.methodLink RX7 212 yX7_cuts, Cond.instanceMethod yX7_cuts, Cond.selects RX7 yX7_cuts yX7_cuts, Cond.code yX7_cuts cX7_cuts 7 (some .boolean), Cond.methodLink RX7 216 yX7_wheels, Cond.instanceMethod yX7_wheels, Cond.selects RX7 yX7_wheels yX7_wheels, Cond.code yX7_wheels cX7_wheels 10 none]
def wsX7_layer : List Cond := .code yX7_layer cX7_layer 7 (some .int) :: ((wsX7_layer_r1 ++ wsX7_layer_r2) ++ wsX70)
def wsX7_planned : List Cond := .code yX7_planned cX7_planned 3 (some .int) :: ([.fieldLink RX7 195 "CaseLineModel" "layerX" "I", .fieldLink RX7 201 "CaseLineModel" "plannedMany" "I", .fieldLink RX7 96 "CaseLineModel" "plan" "[I", .methodLink RX7 127 yX7_in, .static yX7_in, .initialized RX7, .code yX7_in cX7_in 3 (some .boolean)] ++ wsX70)
def wsX7_holds : List Cond := .code yX7_holds cX7_holds 10 (some .int) :: ([.fieldLink RX7 195 "CaseLineModel" "layerX" "I", .fieldLink RX7 201 "CaseLineModel" "plannedMany" "I", .fieldLink RX7 96 "CaseLineModel" "plan" "[I", .fieldLink RX7 198 "CaseLineModel" "layerY" "I"] ++ wsX70)
def wsX7_change : List Cond := .code yX7_change cX7_change 5 (some .int) :: ([.fieldLink RX7 87 "CaseLineModel" "change" "[I", .methodLink RX7 127 yX7_in, .static yX7_in, .initialized RX7, .code yX7_in cX7_in 3 (some .boolean)] ++ wsX70)
def wsX7_stain : List Cond := .code yX7_stain cX7_stain 4 (some .int) :: ([.fieldLink RX7 90 "CaseLineModel" "stains" "[I", .methodLink RX7 127 yX7_in, .static yX7_in, .initialized RX7, .code yX7_in cX7_in 3 (some .boolean)] ++ wsX70)
def wsX7_minutes : List Cond := .code yX7_minutes cX7_minutes 3 (some .int) :: ([.fieldLink RX7 87 "CaseLineModel" "change" "[I", .fieldLink RX7 90 "CaseLineModel" "stains" "[I", .fieldLink RX7 84 "CaseLineModel" "rules" "[I"] ++ wsX70)
def wsX7_tour : List Cond := .code yX7_tour cX7_tour 9 (some .int) :: ([.constant RX7 220 (999999), .fieldLink RX7 102 "CaseLineModel" "rest" "[I", .methodLink RX7 127 yX7_in, .static yX7_in, .initialized RX7, .code yX7_in cX7_in 3 (some .boolean), .methodLink RX7 221 yX7_minutes, .instanceMethod yX7_minutes, .selects RX7 yX7_minutes yX7_minutes, .code yX7_minutes cX7_minutes 3 (some .int), .fieldLink RX7 87 "CaseLineModel" "change" "[I", .fieldLink RX7 90 "CaseLineModel" "stains" "[I", .fieldLink RX7 84 "CaseLineModel" "rules" "[I"] ++ wsX70)
def wsX7_scale : List Cond := .code yX7_scale cX7_scale 4 (some .int) :: ([.fieldLink RX7 71 "CaseLineModel" "weight" "[I", .methodLink RX7 167 yX7_isCode, .instanceMethod yX7_isCode, .selects RX7 yX7_isCode yX7_isCode, .initialized RX7, .code yX7_isCode cX7_isCode 2 (some .boolean), .fieldLink RX7 139 "CaseLineModel" "codes" "I", .methodLink RX7 127 yX7_in, .static yX7_in, .code yX7_in cX7_in 3 (some .boolean)] ++ wsX70)
def wsX7_scales : List Cond := .code yX7_scales cX7_scales 6 (some .int) :: ([.fieldLink RX7 139 "CaseLineModel" "codes" "I", .fieldLink RX7 71 "CaseLineModel" "weight" "[I", .fieldLink RX7 84 "CaseLineModel" "rules" "[I", .methodLink RX7 127 yX7_in, .static yX7_in, .initialized RX7, .code yX7_in cX7_in 3 (some .boolean)] ++ wsX70)
def wsJ9_abs_0f7a4 : List Cond := .code yJ9_abs_0f7a4 cJ9_abs_0f7a4 1 (some .int) :: ([])
def wsJ9_max_7cf53 : List Cond := .code yJ9_max_7cf53 cJ9_max_7cf53 2 (some .int) :: ([])
def wsJ9_min_7cf53 : List Cond := .code yJ9_min_7cf53 cJ9_min_7cf53 2 (some .int) :: ([])
def wsL_law_r1 : List Cond := [Cond.classLink RL 7 RX6, Cond.instantiable RX6 6, Cond.initialized RX6, Cond.classLink RL 10 RX7, Cond.instantiable RX7 43, Cond.initialized RX7, Cond.methodLink RL 9 yX6_init, Cond.instanceMethod yX6_init, Cond.code yX6_init cX6_init 1 none, Cond.methodLink RX6 1 objectInit, Cond.instanceMethod objectInit, Cond.code objectInit ⟨#[0xb1]⟩ 1 none, Cond.classLink RX6 7 RX1, Cond.instantiable RX1 9, Cond.initialized RX1, Cond.fieldLink RX6 10 "CaseLine" "conveyor" "LCaseLine$Conveyor;", Cond.classLink RX6 16 RX0, Cond.instantiable RX0 9, Cond.initialized RX0, Cond.fieldLink RX6 19 "CaseLine" "codes" "LCaseLine$Codes;", Cond.classLink RX6 23 RX4, Cond.instantiable RX4 12, Cond.initialized RX4, Cond.fieldLink RX6 26 "CaseLine" "plan" "LCaseLine$Plan;"]
def wsL_law_r2 : List Cond := [Cond.classLink RX6 30 RX5, Cond.instantiable RX5 5, Cond.initialized RX5, Cond.fieldLink RX6 33 "CaseLine" "tours" "LCaseLine$Tours;", Cond.fieldLink RX6 37 "CaseLine" "RULE_AT_FIRST" "[I", Cond.methodLink RX6 41 ⟨"[I", "clone", "()Ljava/lang/Object;"⟩, Cond.sameMethod "[I" "java/lang/Object" "clone" "()Ljava/lang/Object;", Cond.native ⟨"java/lang/Object", "clone", "()Ljava/lang/Object;"⟩, Cond.instanceMethod ⟨"java/lang/Object", "clone", "()Ljava/lang/Object;"⟩, Cond.selects "[I" ⟨"[I", "clone", "()Ljava/lang/Object;"⟩ ⟨"java/lang/Object", "clone", "()Ljava/lang/Object;"⟩, Cond.classLink RX6 42 "[I", Cond.fieldLink RX6 46 "CaseLine" "rules" "[I", Cond.methodLink RX6 9 yX1_init, Cond.instanceMethod yX1_init, Cond.code yX1_init cX1_init 3 none, Cond.methodLink RX1 1 objectInit, Cond.classLink RX1 9 RX3, Cond.fieldLink RX1 11 "CaseLine$Conveyor" "machines" "[LCaseLine$Machine;", Cond.classLink RX1 15 RX2, Cond.instantiable RX2 4, Cond.initialized RX2, Cond.fieldLink RX1 18 "CaseLine$Conveyor" "faults" "LCaseLine$Faults;", Cond.arrayClass .int, Cond.fieldLink RX1 22 "CaseLine$Conveyor" "laidOn" "[I"]
def wsL_law_r3 : List Cond := [Cond.instantiable RX3 14, Cond.initialized RX3, Cond.fieldLink RX1 29 "CaseLine$Conveyor" "count" "I", Cond.instanceMethod yX2_init, Cond.code yX2_init cX2_init 1 none, Cond.methodLink RX2 3 objectInit, Cond.fieldLink RX2 11 "CaseLine$Faults" "machineOf" "[I", Cond.fieldLink RX2 15 "CaseLine$Faults" "firstTick" "[I", Cond.fieldLink RX2 18 "CaseLine$Faults" "lastTick" "[I", Cond.methodLink RX1 26 yX3_init, Cond.instanceMethod yX3_init, Cond.code yX3_init cX3_init 3 none, Cond.methodLink RX3 3 objectInit, Cond.fieldLink RX3 11 "CaseLine$Machine" "setting" "[I", Cond.fieldLink RX3 15 "CaseLine$Machine" "number" "I", Cond.fieldLink RX3 19 "CaseLine$Machine" "ahead" "LCaseLine$Machine;", Cond.methodLink RX3 23 yX3_renew, Cond.instanceMethod yX3_renew, Cond.selects RX3 yX3_renew yX3_renew, Cond.code yX3_renew cX3_renew 1 none, Cond.fieldLink RX3 26 "CaseLine$Machine" "AT_FIRST" "[I", Cond.methodLink RX3 29 arraycopyName, Cond.native arraycopyName, Cond.static arraycopyName]
def wsL_law_r4 : List Cond := [Cond.initialized "java/lang/System", Cond.fieldLink RX3 35 "CaseLine$Machine" "inGap" "I", Cond.fieldLink RX3 38 "CaseLine$Machine" "working" "Z", Cond.fieldLink RX3 42 "CaseLine$Machine" "holding" "Z", Cond.fieldLink RX3 45 "CaseLine$Machine" "ticksOnUnit" "I", Cond.fieldLink RX3 48 "CaseLine$Machine" "finished" "I", Cond.fieldLink RX3 51 "CaseLine$Machine" "rejected" "I", Cond.fieldLink RX3 54 "CaseLine$Machine" "sampled" "I", Cond.fieldLink RX3 57 "CaseLine$Machine" "unconfirmed" "I", Cond.fieldLink RX3 60 "CaseLine$Machine" "oldestReject" "I", Cond.fieldLink RX3 63 "CaseLine$Machine" "state" "I", Cond.fieldLink RX3 66 "CaseLine$Machine" "ran" "I", Cond.methodLink RX6 18 yX0_init, Cond.instanceMethod yX0_init, Cond.code yX0_init cX0_init 1 none, Cond.methodLink RX0 3 objectInit, Cond.fieldLink RX0 11 "CaseLine$Codes" "boxOf" "[I", Cond.fieldLink RX0 15 "CaseLine$Codes" "lotOf" "[I", Cond.fieldLink RX0 18 "CaseLine$Codes" "weightOf" "[I", Cond.fieldLink RX0 21 "CaseLine$Codes" "unitsIn" "[I", Cond.arrayClass .boolean, Cond.fieldLink RX0 24 "CaseLine$Codes" "boxClosed" "[Z", Cond.fieldLink RX0 28 "CaseLine$Codes" "palletOf" "[I", Cond.fieldLink RX0 31 "CaseLine$Codes" "boxesOn" "[I"]
def wsL_law_r5 : List Cond := [Cond.fieldLink RX0 34 "CaseLine$Codes" "palletClosed" "[Z", Cond.methodLink RX0 37 yJ7_fill_53178, Cond.static yJ7_fill_53178, Cond.initialized RJ7, Cond.code yJ7_fill_53178 cJ7_fill_53178 4 none, Cond.instanceMethod yX4_init, Cond.code yX4_init cX4_init 1 none, Cond.methodLink RX4 5 objectInit, Cond.fieldLink RX4 11 "CaseLine$Plan" "most" "[I", Cond.fieldLink RX4 15 "CaseLine$Plan" "place" "[I", Cond.fieldLink RX4 18 "CaseLine$Plan" "part" "[I", Cond.fieldLink RX4 21 "CaseLine$Plan" "owner" "[I", Cond.methodLink RX6 32 yX5_init, Cond.instanceMethod yX5_init, Cond.code yX5_init cX5_init 1 none, Cond.methodLink RX5 5 objectInit, Cond.fieldLink RX5 11 "CaseLine$Tours" "minutesOf" "[I", Cond.fieldLink RX5 15 "CaseLine$Tours" "stainOf" "[I", Cond.fieldLink RX5 18 "CaseLine$Tours" "rest" "[I", Cond.methodLink RX5 21 yJ7_fill_53178, Cond.methodLink RL 12 yX7_init, Cond.instanceMethod yX7_init, Cond.code yX7_init cX7_init 2 none, Cond.methodLink RX7 1 objectInit]
def wsL_law_r6 : List Cond := [Cond.fieldLink RX7 7 "CaseLineModel" "machines" "I", Cond.fieldLink RX7 13 "CaseLineModel" "pace" "[I", Cond.fieldLink RX7 17 "CaseLineModel" "rejects" "[I", Cond.fieldLink RX7 20 "CaseLineModel" "samples" "[I", Cond.fieldLink RX7 23 "CaseLineModel" "room" "[I", Cond.fieldLink RX7 26 "CaseLineModel" "gap" "[I", Cond.fieldLink RX7 29 "CaseLineModel" "state" "[I", Cond.fieldLink RX7 32 "CaseLineModel" "finished" "[I", Cond.fieldLink RX7 35 "CaseLineModel" "rejected" "[I", Cond.fieldLink RX7 38 "CaseLineModel" "sampled" "[I", Cond.fieldLink RX7 41 "CaseLineModel" "ran" "[I", Cond.fieldLink RX7 44 "CaseLineModel" "work" "[I", Cond.fieldLink RX7 47 "CaseLineModel" "waiting" "[I", Cond.fieldLink RX7 50 "CaseLineModel" "firstReject" "[I", Cond.fieldLink RX7 53 "CaseLineModel" "faultOf" "[I", Cond.fieldLink RX7 56 "CaseLineModel" "faultA" "[I", Cond.fieldLink RX7 59 "CaseLineModel" "faultB" "[I", Cond.fieldLink RX7 62 "CaseLineModel" "causes" "[I", Cond.fieldLink RX7 65 "CaseLineModel" "lots" "[I", Cond.fieldLink RX7 68 "CaseLineModel" "caseOf" "[I", Cond.fieldLink RX7 71 "CaseLineModel" "weight" "[I", Cond.fieldLink RX7 74 "CaseLineModel" "isClosed" "[Z", Cond.fieldLink RX7 78 "CaseLineModel" "palletOf" "[I", Cond.fieldLink RX7 81 "CaseLineModel" "isSealed" "[Z"]
def wsL_law_r7 : List Cond := [Cond.fieldLink RX7 84 "CaseLineModel" "rules" "[I", Cond.fieldLink RX7 87 "CaseLineModel" "change" "[I", Cond.fieldLink RX7 90 "CaseLineModel" "stains" "[I", Cond.fieldLink RX7 93 "CaseLineModel" "most" "[I", Cond.fieldLink RX7 96 "CaseLineModel" "plan" "[I", Cond.fieldLink RX7 99 "CaseLineModel" "pile" "[I", Cond.fieldLink RX7 102 "CaseLineModel" "rest" "[I", Cond.methodLink RX7 105 yX7_begins, Cond.instanceMethod yX7_begins, Cond.selects RX7 yX7_begins yX7_begins, Cond.code yX7_begins cX7_begins 3 none, Cond.fieldLink RX7 109 "CaseLineModel" "faults" "I", Cond.fieldLink RX7 112 "CaseLineModel" "tick" "I", Cond.fieldLink RX7 115 "CaseLineModel" "stock" "I", Cond.fieldLink RX7 118 "CaseLineModel" "taken" "I", Cond.fieldLink RX7 121 "CaseLineModel" "good" "I", Cond.fieldLink RX7 124 "CaseLineModel" "still" "I", Cond.methodLink RL 13 yX6_line, Cond.instanceMethod yX6_line, Cond.selects RX6 yX6_line yX6_line, Cond.code yX6_line cX6_line 2 (some .int), Cond.methodLink RX6 49 yX6_within, Cond.static yX6_within, Cond.code yX6_within cX6_within 3 (some .boolean)]
def wsL_law_r8 : List Cond := [Cond.methodLink RX6 53 yX1_renew, Cond.instanceMethod yX1_renew, Cond.selects RX1 yX1_renew yX1_renew, Cond.code yX1_renew cX1_renew 4 none, Cond.fieldLink RX1 45 "CaseLine$Conveyor" "ticksDone" "I", Cond.fieldLink RX1 48 "CaseLine$Conveyor" "inSupply" "I", Cond.fieldLink RX1 51 "CaseLine$Conveyor" "taken" "I", Cond.fieldLink RX1 54 "CaseLine$Conveyor" "good" "I", Cond.fieldLink RX1 57 "CaseLine$Conveyor" "stopped" "I", Cond.methodLink RX1 33 yX3_renew, Cond.methodLink RX1 36 yX2_clear, Cond.instanceMethod yX2_clear, Cond.selects RX2 yX2_clear yX2_clear, Cond.code yX2_clear cX2_clear 1 none, Cond.fieldLink RX2 21 "CaseLine$Faults" "count" "I", Cond.methodLink RX1 39 yJ7_fill_53178, Cond.methodLink RL 17 yX7_line, Cond.instanceMethod yX7_line, Cond.selects RX7 yX7_line yX7_line, Cond.code yX7_line cX7_line 2 (some .int), Cond.methodLink RX7 127 yX7_in, Cond.static yX7_in, Cond.code yX7_in cX7_in 3 (some .boolean), Cond.methodLink RL 18 yX6_set]
def wsL_law_r9 : List Cond := [Cond.instanceMethod yX6_set, Cond.selects RX6 yX6_set yX6_set, Cond.code yX6_set cX6_set 5 (some .int), Cond.fieldLink RX6 71 "CaseLine$Machine" "inGap" "I", Cond.methodLink RX6 57 yX1_machineAt, Cond.instanceMethod yX1_machineAt, Cond.selects RX1 yX1_machineAt yX1_machineAt, Cond.code yX1_machineAt cX1_machineAt 2 (some (.object "CaseLine$Machine")), Cond.methodLink RX6 61 yX3_mayBeSet, Cond.instanceMethod yX3_mayBeSet, Cond.selects RX3 yX3_mayBeSet yX3_mayBeSet, Cond.code yX3_mayBeSet cX3_mayBeSet 3 (some .boolean), Cond.fieldLink RX3 73 "CaseLine$Machine" "LEAST" "[I", Cond.fieldLink RX3 76 "CaseLine$Machine" "MOST" "[I", Cond.methodLink RX6 67 yX1_isLast, Cond.instanceMethod yX1_isLast, Cond.selects RX1 yX1_isLast yX1_isLast, Cond.code yX1_isLast cX1_isLast 2 (some .boolean), Cond.fieldLink RX1 60 "CaseLine$Machine" "number" "I", Cond.methodLink RX6 75 yX3_put, Cond.instanceMethod yX3_put, Cond.selects RX3 yX3_put yX3_put, Cond.code yX3_put cX3_put 4 (some .int), Cond.methodLink RX3 79 yX3_mayBeSet]
def wsL_law_r10 : List Cond := [Cond.methodLink RL 22 yX7_set, Cond.instanceMethod yX7_set, Cond.selects RX7 yX7_set yX7_set, Cond.code yX7_set cX7_set 5 (some .int), Cond.methodLink RX7 131 yX7_isMachine, Cond.instanceMethod yX7_isMachine, Cond.selects RX7 yX7_isMachine yX7_isMachine, Cond.code yX7_isMachine cX7_isMachine 2 (some .boolean), Cond.methodLink RL 23 yX6_fault, Cond.instanceMethod yX6_fault, Cond.selects RX6 yX6_fault yX6_fault, Cond.code yX6_fault cX6_fault 4 (some .int), Cond.fieldLink RX6 79 "CaseLine$Conveyor" "ticksDone" "I", Cond.fieldLink RX6 82 "CaseLine$Conveyor" "faults" "LCaseLine$Faults;", Cond.methodLink RX6 86 yX2_add, Cond.instanceMethod yX2_add, Cond.selects RX2 yX2_add yX2_add, Cond.code yX2_add cX2_add 4 (some .int), Cond.methodLink RL 26 yX7_fault, Cond.instanceMethod yX7_fault, Cond.selects RX7 yX7_fault yX7_fault, Cond.code yX7_fault cX7_fault 4 (some .int), Cond.methodLink RL 27 yX6_supply, Cond.instanceMethod yX6_supply]
def wsL_law_r11 : List Cond := [Cond.selects RX6 yX6_supply yX6_supply, Cond.code yX6_supply cX6_supply 2 (some .int), Cond.fieldLink RX6 92 "CaseLine$Conveyor" "inSupply" "I", Cond.constant RX6 95 (100000), Cond.methodLink RL 30 yX7_supply, Cond.instanceMethod yX7_supply, Cond.selects RX7 yX7_supply yX7_supply, Cond.code yX7_supply cX7_supply 2 (some .int), Cond.constant RX7 135 (100000), Cond.methodLink RL 31 yX6_lot, Cond.instanceMethod yX6_lot, Cond.selects RX6 yX6_lot yX6_lot, Cond.code yX6_lot cX6_lot 3 (some .int), Cond.fieldLink RX6 96 "CaseLine" "lotNow" "I", Cond.methodLink RL 34 yX7_lot, Cond.instanceMethod yX7_lot, Cond.selects RX7 yX7_lot yX7_lot, Cond.code yX7_lot cX7_lot 3 (some .int), Cond.fieldLink RX7 136 "CaseLineModel" "lotNow" "I", Cond.methodLink RL 35 yX6_ticks, Cond.instanceMethod yX6_ticks, Cond.selects RX6 yX6_ticks yX6_ticks, Cond.code yX6_ticks cX6_ticks 3 (some .int), Cond.methodLink RX6 99 yX1_step]
def wsL_law_r12 : List Cond := [Cond.instanceMethod yX1_step, Cond.selects RX1 yX1_step yX1_step, Cond.code yX1_step cX1_step 3 (some .boolean), Cond.fieldLink RX1 75 "CaseLine$Machine" "state" "I", Cond.fieldLink RX1 78 "CaseLine$Machine" "ran" "I", Cond.fieldLink RX1 81 "CaseLine$Machine" "ahead" "LCaseLine$Machine;", Cond.methodLink RX1 67 yX1_last, Cond.instanceMethod yX1_last, Cond.selects RX1 yX1_last yX1_last, Cond.code yX1_last cX1_last 1 (some (.object "CaseLine$Machine")), Cond.methodLink RX1 63 yX1_machineAt, Cond.methodLink RX1 71 yX1_stepOf, Cond.instanceMethod yX1_stepOf, Cond.selects RX1 yX1_stepOf yX1_stepOf, Cond.code yX1_stepOf cX1_stepOf 2 (some .int), Cond.fieldLink RX1 96 "CaseLine$Machine" "holding" "Z", Cond.fieldLink RX1 104 "CaseLine$Machine" "working" "Z", Cond.fieldLink RX1 111 "CaseLine$Machine" "ticksOnUnit" "I", Cond.methodLink RX1 88 yX2_stop, Cond.instanceMethod yX2_stop, Cond.selects RX2 yX2_stop yX2_stop, Cond.code yX2_stop cX2_stop 4 (some .boolean), Cond.methodLink RX1 92 yX3_waitsForWord, Cond.instanceMethod yX3_waitsForWord]
def wsL_law_r13 : List Cond := [Cond.selects RX3 yX3_waitsForWord yX3_waitsForWord, Cond.code yX3_waitsForWord cX3_waitsForWord 2 (some .boolean), Cond.methodLink RX1 100 yX3_giveOn, Cond.instanceMethod yX3_giveOn, Cond.selects RX3 yX3_giveOn yX3_giveOn, Cond.code yX3_giveOn cX3_giveOn 1 (some .boolean), Cond.methodLink RX1 107 yX1_takeFor, Cond.instanceMethod yX1_takeFor, Cond.selects RX1 yX1_takeFor yX1_takeFor, Cond.code yX1_takeFor cX1_takeFor 2 (some .boolean), Cond.fieldLink RX1 121 "CaseLine$Machine" "inGap" "I", Cond.methodLink RX1 114 yX3_unitIsFinished, Cond.instanceMethod yX3_unitIsFinished, Cond.selects RX3 yX3_unitIsFinished yX3_unitIsFinished, Cond.code yX3_unitIsFinished cX3_unitIsFinished 1 (some .boolean), Cond.methodLink RX1 117 yX1_finishAt, Cond.instanceMethod yX1_finishAt, Cond.selects RX1 yX1_finishAt yX1_finishAt, Cond.code yX1_finishAt cX1_finishAt 2 none, Cond.methodLink RX1 124 yX3_passes, Cond.instanceMethod yX3_passes, Cond.selects RX3 yX3_passes yX3_passes, Cond.code yX3_passes cX3_passes 2 (some .boolean), Cond.methodLink RX3 83 yX3_isEach]
def wsL_law_r14 : List Cond := [Cond.instanceMethod yX3_isEach, Cond.selects RX3 yX3_isEach yX3_isEach, Cond.code yX3_isEach cX3_isEach 2 (some .boolean), Cond.methodLink RX3 87 yX3_reject, Cond.instanceMethod yX3_reject, Cond.selects RX3 yX3_reject yX3_reject, Cond.code yX3_reject cX3_reject 2 none, Cond.methodLink RX1 127 yX1_isLast, Cond.methodLink RX1 85 yX1_layOnCause, Cond.instanceMethod yX1_layOnCause, Cond.selects RX1 yX1_layOnCause yX1_layOnCause, Cond.code yX1_layOnCause cX1_layOnCause 2 none, Cond.methodLink RX6 103 yX0_add, Cond.instanceMethod yX0_add, Cond.selects RX0 yX0_add yX0_add, Cond.code yX0_add cX0_add 2 none, Cond.fieldLink RX0 43 "CaseLine$Codes" "count" "I", Cond.methodLink RL 38 yX7_ticks, Cond.instanceMethod yX7_ticks, Cond.selects RX7 yX7_ticks yX7_ticks, Cond.code yX7_ticks cX7_ticks 3 (some .int), Cond.methodLink RX7 155 yX7_passes, Cond.instanceMethod yX7_passes, Cond.selects RX7 yX7_passes yX7_passes]
def wsL_law_r15 : List Cond := [Cond.code yX7_passes cX7_passes 2 none, Cond.methodLink RX7 151 yX7_steps, Cond.instanceMethod yX7_steps, Cond.selects RX7 yX7_steps yX7_steps, Cond.code yX7_steps cX7_steps 2 (some .int), Cond.methodLink RX7 142 yX7_isFaulty, Cond.instanceMethod yX7_isFaulty, Cond.selects RX7 yX7_isFaulty yX7_isFaulty, Cond.code yX7_isFaulty cX7_isFaulty 4 (some .boolean), Cond.methodLink RX7 145 yX7_takes, Cond.instanceMethod yX7_takes, Cond.selects RX7 yX7_takes yX7_takes, Cond.code yX7_takes cX7_takes 3 (some .boolean), Cond.methodLink RX7 148 yX7_finishes, Cond.instanceMethod yX7_finishes, Cond.selects RX7 yX7_finishes yX7_finishes, Cond.code yX7_finishes cX7_finishes 2 none, Cond.fieldLink RX7 139 "CaseLineModel" "codes" "I", Cond.methodLink RL 39 yX6_confirm, Cond.instanceMethod yX6_confirm, Cond.selects RX6 yX6_confirm yX6_confirm, Cond.code yX6_confirm cX6_confirm 4 (some .int), Cond.fieldLink RX6 105 "CaseLine$Machine" "unconfirmed" "I", Cond.methodLink RL 42 yX7_confirm]
def wsL_law_r16 : List Cond := [Cond.instanceMethod yX7_confirm, Cond.selects RX7 yX7_confirm yX7_confirm, Cond.code yX7_confirm cX7_confirm 3 (some .int), Cond.methodLink RL 43 yX6_about, Cond.instanceMethod yX6_about, Cond.selects RX6 yX6_about yX6_about, Cond.code yX6_about cX6_about 4 (some .int), Cond.fieldLink RX6 108 "CaseLine$Machine" "state" "I", Cond.fieldLink RX6 111 "CaseLine$Machine" "finished" "I", Cond.fieldLink RX6 114 "CaseLine$Machine" "rejected" "I", Cond.fieldLink RX6 117 "CaseLine$Machine" "sampled" "I", Cond.fieldLink RX6 124 "CaseLine$Machine" "ran" "I", Cond.methodLink RX6 120 yX3_unitsInside, Cond.instanceMethod yX3_unitsInside, Cond.selects RX3 yX3_unitsInside yX3_unitsInside, Cond.code yX3_unitsInside cX3_unitsInside 1 (some .int), Cond.methodLink RL 47 yX7_about, Cond.instanceMethod yX7_about, Cond.selects RX7 yX7_about yX7_about, Cond.code yX7_about cX7_about 3 (some .int), Cond.methodLink RL 48 yX6_cause, Cond.instanceMethod yX6_cause, Cond.selects RX6 yX6_cause yX6_cause, Cond.code yX6_cause cX6_cause 2 (some .int)]
def wsL_law_r17 : List Cond := [Cond.fieldLink RX6 127 "CaseLine$Conveyor" "laidOn" "[I", Cond.methodLink RL 51 yX7_cause, Cond.instanceMethod yX7_cause, Cond.selects RX7 yX7_cause yX7_cause, Cond.code yX7_cause cX7_cause 2 (some .int), Cond.methodLink RL 52 yX6_book, Cond.instanceMethod yX6_book, Cond.selects RX6 yX6_book yX6_book, Cond.code yX6_book cX6_book 2 (some .int), Cond.fieldLink RX6 130 "CaseLine$Conveyor" "taken" "I", Cond.fieldLink RX6 133 "CaseLine$Conveyor" "good" "I", Cond.fieldLink RX6 145 "CaseLine$Conveyor" "stopped" "I", Cond.methodLink RX6 136 yX1_allRejected, Cond.instanceMethod yX1_allRejected, Cond.selects RX1 yX1_allRejected yX1_allRejected, Cond.code yX1_allRejected cX1_allRejected 3 (some .int), Cond.fieldLink RX1 136 "CaseLine$Machine" "rejected" "I", Cond.methodLink RX6 139 yX1_allSampled, Cond.instanceMethod yX1_allSampled, Cond.selects RX1 yX1_allSampled yX1_allSampled, Cond.code yX1_allSampled cX1_allSampled 3 (some .int), Cond.fieldLink RX1 139 "CaseLine$Machine" "sampled" "I", Cond.methodLink RX6 142 yX1_allOnLine, Cond.instanceMethod yX1_allOnLine]
def wsL_law_r18 : List Cond := [Cond.selects RX1 yX1_allOnLine yX1_allOnLine, Cond.code yX1_allOnLine cX1_allOnLine 3 (some .int), Cond.methodLink RX1 142 yX3_unitsInside, Cond.methodLink RL 55 yX7_book, Cond.instanceMethod yX7_book, Cond.selects RX7 yX7_book yX7_book, Cond.code yX7_book cX7_book 6 (some .int), Cond.methodLink RL 56 yX6_rule, Cond.instanceMethod yX6_rule, Cond.selects RX6 yX6_rule yX6_rule, Cond.code yX6_rule cX6_rule 4 (some .int), Cond.fieldLink RX6 148 "CaseLine" "RULE_LEAST" "[I", Cond.fieldLink RX6 151 "CaseLine" "RULE_MOST" "[I", Cond.methodLink RX6 154 yX0_fullestCase, Cond.instanceMethod yX0_fullestCase, Cond.selects RX0 yX0_fullestCase yX0_fullestCase, Cond.code yX0_fullestCase cX0_fullestCase 3 (some .int), Cond.methodLink RX0 66 Lib.Math.max.name, Cond.static Lib.Math.max.name, Cond.initialized "java/lang/Math", Cond.code Lib.Math.max.name Lib.Math.max.code 2 (some .int), Cond.methodLink RX6 157 yX0_fullestPallet, Cond.instanceMethod yX0_fullestPallet, Cond.selects RX0 yX0_fullestPallet yX0_fullestPallet]
def wsL_law_r19 : List Cond := [Cond.code yX0_fullestPallet cX0_fullestPallet 3 (some .int), Cond.methodLink RL 59 yX7_rule, Cond.instanceMethod yX7_rule, Cond.selects RX7 yX7_rule yX7_rule, Cond.code yX7_rule cX7_rule 4 (some .int), Cond.methodLink RX7 158 yX7_units, Cond.instanceMethod yX7_units, Cond.selects RX7 yX7_units yX7_units, Cond.code yX7_units cX7_units 4 (some .int), Cond.methodLink RX7 161 yX7_casesOn, Cond.instanceMethod yX7_casesOn, Cond.selects RX7 yX7_casesOn yX7_casesOn, Cond.code yX7_casesOn cX7_casesOn 4 (some .int), Cond.methodLink RL 60 yX6_pack, Cond.instanceMethod yX6_pack, Cond.selects RX6 yX6_pack yX6_pack, Cond.code yX6_pack cX6_pack 3 (some .int), Cond.methodLink RX6 160 yX6_isBox, Cond.static yX6_isBox, Cond.code yX6_isBox cX6_isBox 1 (some .boolean), Cond.methodLink RX6 164 yX0_packInto, Cond.instanceMethod yX0_packInto, Cond.selects RX0 yX0_packInto yX0_packInto, Cond.code yX0_packInto cX0_packInto 4 (some .int)]
def wsL_law_r20 : List Cond := [Cond.methodLink RX0 51 yX0_known, Cond.instanceMethod yX0_known, Cond.selects RX0 yX0_known yX0_known, Cond.code yX0_known cX0_known 2 (some .boolean), Cond.methodLink RL 63 yX7_pack, Cond.instanceMethod yX7_pack, Cond.selects RX7 yX7_pack yX7_pack, Cond.code yX7_pack cX7_pack 3 (some .int), Cond.methodLink RX7 164 yX7_isCase, Cond.static yX7_isCase, Cond.code yX7_isCase cX7_isCase 1 (some .boolean), Cond.methodLink RX7 167 yX7_isCode, Cond.instanceMethod yX7_isCode, Cond.selects RX7 yX7_isCode yX7_isCode, Cond.code yX7_isCode cX7_isCode 2 (some .boolean), Cond.methodLink RL 64 yX6_close, Cond.instanceMethod yX6_close, Cond.selects RX6 yX6_close yX6_close, Cond.code yX6_close cX6_close 2 (some .int), Cond.methodLink RX6 167 yX0_closeBox, Cond.instanceMethod yX0_closeBox, Cond.selects RX0 yX0_closeBox yX0_closeBox, Cond.code yX0_closeBox cX0_closeBox 3 (some .int), Cond.methodLink RL 67 yX7_close]
def wsL_law_r21 : List Cond := [Cond.instanceMethod yX7_close, Cond.selects RX7 yX7_close yX7_close, Cond.code yX7_close cX7_close 2 (some .int), Cond.methodLink RL 68 yX6_weigh, Cond.instanceMethod yX6_weigh, Cond.selects RX6 yX6_weigh yX6_weigh, Cond.code yX6_weigh cX6_weigh 4 (some .int), Cond.constant RX6 170 (1000000), Cond.methodLink RX6 171 Lib.Math.abs.name, Cond.static Lib.Math.abs.name, Cond.code Lib.Math.abs.name Lib.Math.abs.code 1 (some .int), Cond.methodLink RX6 177 yX0_closeWithLost, Cond.instanceMethod yX0_closeWithLost, Cond.selects RX0 yX0_closeWithLost yX0_closeWithLost, Cond.code yX0_closeWithLost cX0_closeWithLost 4 (some .int), Cond.methodLink RX0 55 yX0_leastIn, Cond.instanceMethod yX0_leastIn, Cond.selects RX0 yX0_leastIn yX0_leastIn, Cond.code yX0_leastIn cX0_leastIn 3 (some .int), Cond.methodLink RX0 59 yX0_greatestIn, Cond.instanceMethod yX0_greatestIn, Cond.selects RX0 yX0_greatestIn yX0_greatestIn, Cond.code yX0_greatestIn cX0_greatestIn 3 (some .int), Cond.methodLink RX0 62 yX0_onlyLooseIn]
def wsL_law_r22 : List Cond := [Cond.instanceMethod yX0_onlyLooseIn, Cond.selects RX0 yX0_onlyLooseIn yX0_onlyLooseIn, Cond.code yX0_onlyLooseIn cX0_onlyLooseIn 5 (some .int), Cond.methodLink RL 71 yX7_weigh, Cond.instanceMethod yX7_weigh, Cond.selects RX7 yX7_weigh yX7_weigh, Cond.code yX7_weigh cX7_weigh 7 (some .int), Cond.constant RX7 170 (1000000), Cond.methodLink RX7 171 yX7_leastIn, Cond.instanceMethod yX7_leastIn, Cond.selects RX7 yX7_leastIn yX7_leastIn, Cond.code yX7_leastIn cX7_leastIn 4 (some .int), Cond.methodLink RX7 174 yX7_greatestIn, Cond.instanceMethod yX7_greatestIn, Cond.selects RX7 yX7_greatestIn yX7_greatestIn, Cond.code yX7_greatestIn cX7_greatestIn 4 (some .int), Cond.methodLink RL 72 yX6_stack, Cond.instanceMethod yX6_stack, Cond.selects RX6 yX6_stack yX6_stack, Cond.code yX6_stack cX6_stack 3 (some .int), Cond.methodLink RX6 180 yX6_isPallet, Cond.static yX6_isPallet, Cond.code yX6_isPallet cX6_isPallet 1 (some .boolean), Cond.methodLink RX6 183 yX0_stackOn]
def wsL_law_r23 : List Cond := [Cond.instanceMethod yX0_stackOn, Cond.selects RX0 yX0_stackOn yX0_stackOn, Cond.code yX0_stackOn cX0_stackOn 4 (some .int), Cond.methodLink RL 75 yX7_stack, Cond.instanceMethod yX7_stack, Cond.selects RX7 yX7_stack yX7_stack, Cond.code yX7_stack cX7_stack 3 (some .int), Cond.methodLink RX7 177 yX7_isPallet, Cond.static yX7_isPallet, Cond.code yX7_isPallet cX7_isPallet 1 (some .boolean), Cond.methodLink RL 76 yX6_seal, Cond.instanceMethod yX6_seal, Cond.selects RX6 yX6_seal yX6_seal, Cond.code yX6_seal cX6_seal 2 (some .int), Cond.methodLink RX6 186 yX0_sealPallet, Cond.instanceMethod yX0_sealPallet, Cond.selects RX0 yX0_sealPallet yX0_sealPallet, Cond.code yX0_sealPallet cX0_sealPallet 2 (some .int), Cond.methodLink RL 79 yX7_seal, Cond.instanceMethod yX7_seal, Cond.selects RX7 yX7_seal yX7_seal, Cond.code yX7_seal cX7_seal 3 (some .int), Cond.methodLink RL 80 yX6_breakUp, Cond.instanceMethod yX6_breakUp]
def wsL_law_r24 : List Cond := [Cond.selects RX6 yX6_breakUp yX6_breakUp, Cond.code yX6_breakUp cX6_breakUp 3 (some .int), Cond.methodLink RX6 189 yX0_breakBox, Cond.instanceMethod yX0_breakBox, Cond.selects RX0 yX0_breakBox yX0_breakBox, Cond.code yX0_breakBox cX0_breakBox 4 (some .int), Cond.methodLink RX6 192 yX0_breakPallet, Cond.instanceMethod yX0_breakPallet, Cond.selects RX0 yX0_breakPallet yX0_breakPallet, Cond.code yX0_breakPallet cX0_breakPallet 4 (some .int), Cond.methodLink RL 83 yX7_breakUp, Cond.instanceMethod yX7_breakUp, Cond.selects RX7 yX7_breakUp yX7_breakUp, Cond.code yX7_breakUp cX7_breakUp 5 (some .int), Cond.methodLink RL 84 yX6_code, Cond.instanceMethod yX6_code, Cond.selects RX6 yX6_code yX6_code, Cond.code yX6_code cX6_code 3 (some .int), Cond.fieldLink RX6 198 "CaseLine$Codes" "boxOf" "[I", Cond.fieldLink RX6 204 "CaseLine$Codes" "lotOf" "[I", Cond.fieldLink RX6 207 "CaseLine$Codes" "weightOf" "[I", Cond.methodLink RX6 195 yX0_known, Cond.methodLink RX6 201 yX0_palletOfCode, Cond.instanceMethod yX0_palletOfCode]
def wsL_law_r25 : List Cond := [Cond.selects RX0 yX0_palletOfCode yX0_palletOfCode, Cond.code yX0_palletOfCode cX0_palletOfCode 3 (some .int), Cond.methodLink RL 87 yX7_code, Cond.instanceMethod yX7_code, Cond.selects RX7 yX7_code yX7_code, Cond.code yX7_code cX7_code 4 (some .int), Cond.methodLink RL 88 yX6_box, Cond.instanceMethod yX6_box, Cond.selects RX6 yX6_box yX6_box, Cond.code yX6_box cX6_box 3 (some .int), Cond.fieldLink RX6 210 "CaseLine$Codes" "unitsIn" "[I", Cond.fieldLink RX6 213 "CaseLine$Codes" "boxClosed" "[Z", Cond.fieldLink RX6 217 "CaseLine$Codes" "palletOf" "[I", Cond.methodLink RX6 220 yX0_leastIn, Cond.methodLink RX6 223 yX0_greatestIn, Cond.methodLink RL 91 yX7_box, Cond.instanceMethod yX7_box, Cond.selects RX7 yX7_box yX7_box, Cond.code yX7_box cX7_box 3 (some .int), Cond.methodLink RL 92 yX6_recall, Cond.instanceMethod yX6_recall, Cond.selects RX6 yX6_recall yX6_recall, Cond.code yX6_recall cX6_recall 3 (some .int), Cond.methodLink RX6 226 yX0_boxesWith]
def wsL_law_r26 : List Cond := [Cond.instanceMethod yX0_boxesWith, Cond.selects RX0 yX0_boxesWith yX0_boxesWith, Cond.code yX0_boxesWith cX0_boxesWith 4 (some .int), Cond.methodLink RX6 229 yX0_palletsWith, Cond.instanceMethod yX0_palletsWith, Cond.selects RX0 yX0_palletsWith yX0_palletsWith, Cond.code yX0_palletsWith cX0_palletsWith 5 (some .int), Cond.methodLink RX0 74 yX0_palletOfCode, Cond.methodLink RX6 232 yX0_looseOf, Cond.instanceMethod yX0_looseOf, Cond.selects RX0 yX0_looseOf yX0_looseOf, Cond.code yX0_looseOf cX0_looseOf 4 (some .int), Cond.methodLink RL 95 yX7_recall, Cond.instanceMethod yX7_recall, Cond.selects RX7 yX7_recall yX7_recall, Cond.code yX7_recall cX7_recall 8 (some .int), Cond.methodLink RL 96 yX6_layer, Cond.instanceMethod yX6_layer, Cond.selects RX6 yX6_layer yX6_layer, Cond.code yX6_layer cX6_layer 5 (some .int), Cond.methodLink RX6 235 yX6_isSide, Cond.static yX6_isSide, Cond.code yX6_isSide cX6_isSide 1 (some .boolean), Cond.methodLink RX6 238 yX4_make]
def wsL_law_r27 : List Cond := [Cond.instanceMethod yX4_make, Cond.selects RX4 yX4_make yX4_make, Cond.code yX4_make cX4_make 5 (some .int), Cond.fieldLink RX4 24 "CaseLine$Plan" "x" "I", Cond.fieldLink RX4 28 "CaseLine$Plan" "y" "I", Cond.fieldLink RX4 31 "CaseLine$Plan" "a" "I", Cond.fieldLink RX4 34 "CaseLine$Plan" "b" "I", Cond.methodLink RX4 37 Lib.Math.min.name, Cond.static Lib.Math.min.name, Cond.code Lib.Math.min.name Lib.Math.min.code 2 (some .int), Cond.fieldLink RX4 43 "CaseLine$Plan" "narrow" "I", Cond.fieldLink RX4 46 "CaseLine$Plan" "made" "Z", Cond.methodLink RX4 50 yX4_findMost, Cond.instanceMethod yX4_findMost, Cond.selects RX4 yX4_findMost yX4_findMost, Cond.code yX4_findMost cX4_findMost 3 none, Cond.methodLink RX4 62 yX4_mostIn, Cond.instanceMethod yX4_mostIn, Cond.selects RX4 yX4_mostIn yX4_mostIn, Cond.code yX4_mostIn cX4_mostIn 5 (some .int), Cond.methodLink RX4 73 Lib.Math.max.name, Cond.methodLink RX4 65 yX4_fits, Cond.static yX4_fits, Cond.code yX4_fits cX4_fits 4 (some .boolean)]
def wsL_law_r28 : List Cond := [Cond.methodLink RX4 69 yX4_byUprightCut, Cond.instanceMethod yX4_byUprightCut, Cond.selects RX4 yX4_byUprightCut yX4_byUprightCut, Cond.code yX4_byUprightCut cX4_byUprightCut 4 (some .int), Cond.methodLink RX4 56 yX4_mostOf, Cond.instanceMethod yX4_mostOf, Cond.selects RX4 yX4_mostOf yX4_mostOf, Cond.code yX4_mostOf cX4_mostOf 3 (some .int), Cond.methodLink RX4 76 yX4_byLevelCut, Cond.instanceMethod yX4_byLevelCut, Cond.selects RX4 yX4_byLevelCut yX4_byLevelCut, Cond.code yX4_byLevelCut cX4_byLevelCut 4 (some .int), Cond.methodLink RX4 79 yX4_mostByPinwheel, Cond.instanceMethod yX4_mostByPinwheel, Cond.selects RX4 yX4_mostByPinwheel yX4_mostByPinwheel, Cond.code yX4_mostByPinwheel cX4_mostByPinwheel 8 (some .int), Cond.methodLink RX4 82 yX4_byPinwheel, Cond.instanceMethod yX4_byPinwheel, Cond.selects RX4 yX4_byPinwheel yX4_byPinwheel, Cond.code yX4_byPinwheel cX4_byPinwheel 7 (some .int), Cond.methodLink RX4 53 yX4_layCases, Cond.instanceMethod yX4_layCases, Cond.selects RX4 yX4_layCases yX4_layCases, Cond.code yX4_layCases cX4_layCases 3 none]
def wsL_law_r29 : List Cond := [Cond.fieldLink RX4 59 "CaseLine$Plan" "places" "I", Cond.fieldLink RX4 86 "CaseLine$Plan" "parts" "I", Cond.methodLink RX4 89 yX4_putPart, Cond.instanceMethod yX4_putPart, Cond.selects RX4 yX4_putPart yX4_putPart, Cond.code yX4_putPart cX4_putPart 6 none, Cond.methodLink RX4 93 yX4_layPart, Cond.instanceMethod yX4_layPart, Cond.selects RX4 yX4_layPart yX4_layPart, Cond.code yX4_layPart cX4_layPart 6 none, Cond.methodLink RX4 96 yX4_layCase, Cond.instanceMethod yX4_layCase, Cond.selects RX4 yX4_layCase yX4_layCase, Cond.code yX4_layCase cX4_layCase 5 none, Cond.methodLink RX4 100 yX4_cutUpright, Cond.instanceMethod yX4_cutUpright, Cond.selects RX4 yX4_cutUpright yX4_cutUpright, Cond.code yX4_cutUpright cX4_cutUpright 6 (some .boolean), Cond.methodLink RX4 103 yX4_cutLevel, Cond.instanceMethod yX4_cutLevel, Cond.selects RX4 yX4_cutLevel yX4_cutLevel, Cond.code yX4_cutLevel cX4_cutLevel 6 (some .boolean), Cond.methodLink RX4 106 yX4_cutPinwheel, Cond.instanceMethod yX4_cutPinwheel]
def wsL_law_r30 : List Cond := [Cond.selects RX4 yX4_cutPinwheel yX4_cutPinwheel, Cond.code yX4_cutPinwheel cX4_cutPinwheel 9 none, Cond.methodLink RL 100 yX7_layer, Cond.instanceMethod yX7_layer, Cond.selects RX7 yX7_layer yX7_layer, Cond.code yX7_layer cX7_layer 7 (some .int), Cond.fieldLink RX7 195 "CaseLineModel" "layerX" "I", Cond.fieldLink RX7 198 "CaseLineModel" "layerY" "I", Cond.fieldLink RX7 201 "CaseLineModel" "plannedMany" "I", Cond.fieldLink RX7 188 "CaseLineModel" "piled" "I", Cond.methodLink RX7 191 yX7_best, Cond.instanceMethod yX7_best, Cond.selects RX7 yX7_best yX7_best, Cond.code yX7_best cX7_best 11 (some .int), Cond.methodLink RX7 180 yX7_mostOf, Cond.instanceMethod yX7_mostOf, Cond.selects RX7 yX7_mostOf yX7_mostOf, Cond.code yX7_mostOf cX7_mostOf 3 (some .int), Cond.methodLink RX7 184 yX7_wheel, Cond.instanceMethod yX7_wheel, Cond.selects RX7 yX7_wheel yX7_wheel, Cond.code yX7_wheel cX7_wheel 7 (some .int), Cond.methodLink RX7 204 yX7_piles, Cond.instanceMethod yX7_piles]
def wsL_law_r31 : List Cond := [Cond.selects RX7 yX7_piles yX7_piles, Cond.code yX7_piles cX7_piles 5 none, Cond.methodLink RX7 208 yX7_plans, Cond.instanceMethod yX7_plans, Cond.selects RX7 yX7_plans yX7_plans, Cond.code yX7_plans cX7_plans 9 none, Cond.methodLink RX7 212 yX7_cuts, Cond.instanceMethod yX7_cuts, Cond.selects RX7 yX7_cuts yX7_cuts, Cond.code yX7_cuts cX7_cuts 7 (some .boolean), Cond.methodLink RX7 216 yX7_wheels, Cond.instanceMethod yX7_wheels, Cond.selects RX7 yX7_wheels yX7_wheels, Cond.code yX7_wheels cX7_wheels 10 none, Cond.methodLink RL 101 yX6_planned, Cond.instanceMethod yX6_planned, Cond.selects RX6 yX6_planned yX6_planned, Cond.code yX6_planned cX6_planned 3 (some .int), Cond.fieldLink RX6 242 "CaseLine$Plan" "made" "Z", Cond.methodLink RX6 246 yX4_numberOf, Cond.instanceMethod yX4_numberOf, Cond.selects RX4 yX4_numberOf yX4_numberOf, Cond.code yX4_numberOf cX4_numberOf 3 (some .int), Cond.methodLink RL 104 yX7_planned]
def wsL_law_r32 : List Cond := [Cond.instanceMethod yX7_planned, Cond.selects RX7 yX7_planned yX7_planned, Cond.code yX7_planned cX7_planned 3 (some .int), Cond.methodLink RL 105 yX6_holds, Cond.instanceMethod yX6_holds, Cond.selects RX6 yX6_holds yX6_holds, Cond.code yX6_holds cX6_holds 1 (some .int), Cond.methodLink RX6 249 yX4_holding, Cond.instanceMethod yX4_holding, Cond.selects RX4 yX4_holding yX4_holding, Cond.code yX4_holding cX4_holding 3 (some .int), Cond.methodLink RX4 109 yX4_markOwners, Cond.instanceMethod yX4_markOwners, Cond.selects RX4 yX4_markOwners yX4_markOwners, Cond.code yX4_markOwners cX4_markOwners 6 none, Cond.methodLink RX4 116 yJ7_fill_53178, Cond.methodLink RX4 122 yX4_numberOf, Cond.methodLink RX4 125 yX4_isSquare, Cond.static yX4_isSquare, Cond.code yX4_isSquare cX4_isSquare 2 (some .boolean), Cond.methodLink RX4 112 yX4_liesOnTwo, Cond.instanceMethod yX4_liesOnTwo, Cond.selects RX4 yX4_liesOnTwo yX4_liesOnTwo, Cond.code yX4_liesOnTwo cX4_liesOnTwo 8 (some .boolean)]
def wsL_law_r33 : List Cond := [Cond.methodLink RX4 129 yX4_ownerOf, Cond.instanceMethod yX4_ownerOf, Cond.selects RX4 yX4_ownerOf yX4_ownerOf, Cond.code yX4_ownerOf cX4_ownerOf 3 (some .int), Cond.methodLink RL 109 yX7_holds, Cond.instanceMethod yX7_holds, Cond.selects RX7 yX7_holds yX7_holds, Cond.code yX7_holds cX7_holds 10 (some .int), Cond.methodLink RL 110 yX6_change, Cond.instanceMethod yX6_change, Cond.selects RX6 yX6_change yX6_change, Cond.code yX6_change cX6_change 4 (some .int), Cond.methodLink RX6 252 yX6_isKind, Cond.static yX6_isKind, Cond.code yX6_isKind cX6_isKind 1 (some .boolean), Cond.methodLink RX6 255 yX5_putChange, Cond.instanceMethod yX5_putChange, Cond.selects RX5 yX5_putChange yX5_putChange, Cond.code yX5_putChange cX5_putChange 5 (some .int), Cond.methodLink RL 113 yX7_change, Cond.instanceMethod yX7_change, Cond.selects RX7 yX7_change yX7_change, Cond.code yX7_change cX7_change 5 (some .int), Cond.methodLink RL 114 yX6_stain]
def wsL_law_r34 : List Cond := [Cond.instanceMethod yX6_stain, Cond.selects RX6 yX6_stain yX6_stain, Cond.code yX6_stain cX6_stain 3 (some .int), Cond.methodLink RX6 258 yX5_putStain, Cond.instanceMethod yX5_putStain, Cond.selects RX5 yX5_putStain yX5_putStain, Cond.code yX5_putStain cX5_putStain 4 (some .int), Cond.methodLink RL 117 yX7_stain, Cond.instanceMethod yX7_stain, Cond.selects RX7 yX7_stain yX7_stain, Cond.code yX7_stain cX7_stain 4 (some .int), Cond.methodLink RL 118 yX6_tour, Cond.instanceMethod yX6_tour, Cond.selects RX6 yX6_tour yX6_tour, Cond.code yX6_tour cX6_tour 4 (some .int), Cond.methodLink RX6 261 yX5_isIn, Cond.static yX5_isIn, Cond.code yX5_isIn cX5_isIn 2 (some .boolean), Cond.methodLink RX6 264 yX5_find, Cond.instanceMethod yX5_find, Cond.selects RX5 yX5_find yX5_find, Cond.code yX5_find cX5_find 5 none, Cond.fieldLink RX5 27 "CaseLine$Tours" "wanted" "I", Cond.fieldLink RX5 31 "CaseLine$Tours" "cleaning" "I"]
def wsL_law_r35 : List Cond := [Cond.methodLink RX5 34 yX5_isIn, Cond.methodLink RX5 38 yX5_leastRest, Cond.instanceMethod yX5_leastRest, Cond.selects RX5 yX5_leastRest yX5_leastRest, Cond.code yX5_leastRest cX5_leastRest 4 (some .int), Cond.methodLink RX5 45 yX5_nextKind, Cond.instanceMethod yX5_nextKind, Cond.selects RX5 yX5_nextKind yX5_nextKind, Cond.code yX5_nextKind cX5_nextKind 5 (some .int), Cond.methodLink RX5 48 yX5_minutesBy, Cond.instanceMethod yX5_minutesBy, Cond.selects RX5 yX5_minutesBy yX5_minutesBy, Cond.code yX5_minutesBy cX5_minutesBy 4 (some .int), Cond.methodLink RX5 52 yX5_minutes, Cond.instanceMethod yX5_minutes, Cond.selects RX5 yX5_minutes yX5_minutes, Cond.code yX5_minutes cX5_minutes 4 (some .int), Cond.methodLink RX5 42 yX5_restOf, Cond.instanceMethod yX5_restOf, Cond.selects RX5 yX5_restOf yX5_restOf, Cond.code yX5_restOf cX5_restOf 3 (some .int), Cond.methodLink RX6 268 yX5_least, Cond.instanceMethod yX5_least, Cond.selects RX5 yX5_least yX5_least]
def wsL_law_r36 : List Cond := [Cond.code yX5_least cX5_least 2 (some .int), Cond.methodLink RX6 271 yX5_kindAt, Cond.instanceMethod yX5_kindAt, Cond.selects RX5 yX5_kindAt yX5_kindAt, Cond.code yX5_kindAt cX5_kindAt 6 (some .int), Cond.methodLink RL 121 yX7_tour, Cond.instanceMethod yX7_tour, Cond.selects RX7 yX7_tour yX7_tour, Cond.code yX7_tour cX7_tour 9 (some .int), Cond.constant RX7 220 (999999), Cond.methodLink RX7 221 yX7_minutes, Cond.instanceMethod yX7_minutes, Cond.selects RX7 yX7_minutes yX7_minutes, Cond.code yX7_minutes cX7_minutes 3 (some .int), Cond.methodLink RL 122 yX6_scale, Cond.instanceMethod yX6_scale, Cond.selects RX6 yX6_scale yX6_scale, Cond.code yX6_scale cX6_scale 3 (some .int), Cond.methodLink RX6 274 yX0_putWeight, Cond.instanceMethod yX0_putWeight, Cond.selects RX0 yX0_putWeight yX0_putWeight, Cond.code yX0_putWeight cX0_putWeight 4 (some .int), Cond.methodLink RL 125 yX7_scale, Cond.instanceMethod yX7_scale]
def wsL_law_r37 : List Cond := [Cond.selects RX7 yX7_scale yX7_scale, Cond.code yX7_scale cX7_scale 4 (some .int), Cond.methodLink RL 126 yX6_scales, Cond.instanceMethod yX6_scales, Cond.selects RX6 yX6_scales yX6_scales, Cond.code yX6_scales cX6_scales 2 (some .int), Cond.methodLink RX6 277 yX0_givenAway, Cond.instanceMethod yX0_givenAway, Cond.selects RX0 yX0_givenAway yX0_givenAway, Cond.code yX0_givenAway cX0_givenAway 4 (some .int), Cond.methodLink RX6 280 yX0_lighterThan, Cond.instanceMethod yX0_lighterThan, Cond.selects RX0 yX0_lighterThan yX0_lighterThan, Cond.code yX0_lighterThan cX0_lighterThan 4 (some .int), Cond.methodLink RX6 283 yX0_weighed, Cond.instanceMethod yX0_weighed, Cond.selects RX0 yX0_weighed yX0_weighed, Cond.code yX0_weighed cX0_weighed 3 (some .int), Cond.methodLink RL 129 yX7_scales, Cond.instanceMethod yX7_scales, Cond.selects RX7 yX7_scales yX7_scales, Cond.code yX7_scales cX7_scales 6 (some .int)]
def wsL_law : List Cond := (wsL_law_r1 ++ (wsL_law_r2 ++ (wsL_law_r3 ++ (wsL_law_r4 ++ (wsL_law_r5 ++ (wsL_law_r6 ++ (wsL_law_r7 ++ (wsL_law_r8 ++ (wsL_law_r9 ++ (wsL_law_r10 ++ (wsL_law_r11 ++ (wsL_law_r12 ++ (wsL_law_r13 ++ (wsL_law_r14 ++ (wsL_law_r15 ++ (wsL_law_r16 ++ (wsL_law_r17 ++ (wsL_law_r18 ++ (wsL_law_r19 ++ (wsL_law_r20 ++ (wsL_law_r21 ++ (wsL_law_r22 ++ (wsL_law_r23 ++ (wsL_law_r24 ++ (wsL_law_r25 ++ (wsL_law_r26 ++ (wsL_law_r27 ++ (wsL_law_r28 ++ (wsL_law_r29 ++ (wsL_law_r30 ++ (wsL_law_r31 ++ (wsL_law_r32 ++ (wsL_law_r33 ++ (wsL_law_r34 ++ (wsL_law_r35 ++ (wsL_law_r36 ++ wsL_law_r37)))))))))))))))))))))))))))))))))))) ++ wsX60 ++ wsX70 ++ wsX10 ++ wsX00 ++ wsX40 ++ wsX50 ++ wsX20 ++ wsX30 ++ ([] : List Cond)
set_option maxRecDepth 20000 in
theorem inlX0 : ∀ w ∈ wsX00, w ∈ wsL_law := fun _ h => List.mem_append_left _ (List.mem_append_left _ (List.mem_append_left _ (List.mem_append_left _ (List.mem_append_left _ (List.mem_append_right _ h)))))
theorem inlX1 : ∀ w ∈ wsX10, w ∈ wsL_law := fun _ h => List.mem_append_left _ (List.mem_append_left _ (List.mem_append_left _ (List.mem_append_left _ (List.mem_append_left _ (List.mem_append_left _ (List.mem_append_right _ h))))))
theorem inlX2 : ∀ w ∈ wsX20, w ∈ wsL_law := fun _ h => List.mem_append_left _ (List.mem_append_left _ (List.mem_append_right _ h))
theorem inlX3 : ∀ w ∈ wsX30, w ∈ wsL_law := fun _ h => List.mem_append_left _ (List.mem_append_right _ h)
theorem inlX4 : ∀ w ∈ wsX40, w ∈ wsL_law := fun _ h => List.mem_append_left _ (List.mem_append_left _ (List.mem_append_left _ (List.mem_append_left _ (List.mem_append_right _ h))))
theorem inlX5 : ∀ w ∈ wsX50, w ∈ wsL_law := fun _ h => List.mem_append_left _ (List.mem_append_left _ (List.mem_append_left _ (List.mem_append_right _ h)))
theorem inlX6 : ∀ w ∈ wsX60, w ∈ wsL_law := fun _ h => List.mem_append_left _ (List.mem_append_left _ (List.mem_append_left _ (List.mem_append_left _ (List.mem_append_left _ (List.mem_append_left _ (List.mem_append_left _ (List.mem_append_left _ (List.mem_append_right _ h))))))))
theorem inlX7 : ∀ w ∈ wsX70, w ∈ wsL_law := fun _ h => List.mem_append_left _ (List.mem_append_left _ (List.mem_append_left _ (List.mem_append_left _ (List.mem_append_left _ (List.mem_append_left _ (List.mem_append_left _ (List.mem_append_right _ h)))))))
theorem inJx8e188 : ∀ w ∈ wsJx8e1880, w ∈ lw_tbl := by decide +kernel
theorem inJ9 : ∀ w ∈ wsJ90, w ∈ lw_tbl := by decide +kernel
theorem inJ10 : ∀ w ∈ wsJ100, w ∈ lw_tbl := by decide +kernel
theorem inJ7 : ∀ w ∈ wsJ70, w ∈ lw_tbl := by decide +kernel
set_option maxRecDepth 20000 in
theorem ggX0_init_J7_fill_53178 : GoodIn wsX0_init wsJ7_fill_53178 := goodIn_r _ [17] (by decide +kernel) (by decide +kernel)
set_option maxRecDepth 20000 in
theorem gX0_init_J7_fill_53178 : GoodIn wsX0_init (va_wsS RX0 37 yJ7_fill_53178 wsJ7_fill_53178) := goodIn_app (goodIn_of _ (by decide +kernel)) ggX0_init_J7_fill_53178
theorem dX0_init_0 : decode cX0_init 0 = .ok (.aload_n 0, 1) := by decide +kernel
theorem dX0_init_1 : decode cX0_init 1 = .ok (.invokespecial 3, 3) := by decide +kernel
theorem dX0_init_4 : decode cX0_init 4 = .ok (.aload_n 0, 1) := by decide +kernel
theorem dX0_init_5 : decode cX0_init 5 = .ok (.sipush 200, 3) := by decide +kernel
theorem dX0_init_8 : decode cX0_init 8 = .ok (.newarray .int, 2) := by decide +kernel
theorem dX0_init_10 : decode cX0_init 10 = .ok (.putfield 11, 3) := by decide +kernel
theorem dX0_init_13 : decode cX0_init 13 = .ok (.aload_n 0, 1) := by decide +kernel
theorem dX0_init_14 : decode cX0_init 14 = .ok (.sipush 200, 3) := by decide +kernel
theorem dX0_init_17 : decode cX0_init 17 = .ok (.newarray .int, 2) := by decide +kernel
theorem dX0_init_19 : decode cX0_init 19 = .ok (.putfield 15, 3) := by decide +kernel
theorem dX0_init_22 : decode cX0_init 22 = .ok (.aload_n 0, 1) := by decide +kernel
theorem dX0_init_23 : decode cX0_init 23 = .ok (.sipush 200, 3) := by decide +kernel
theorem dX0_init_26 : decode cX0_init 26 = .ok (.newarray .int, 2) := by decide +kernel
theorem dX0_init_28 : decode cX0_init 28 = .ok (.putfield 18, 3) := by decide +kernel
theorem dX0_init_31 : decode cX0_init 31 = .ok (.aload_n 0, 1) := by decide +kernel
theorem dX0_init_32 : decode cX0_init 32 = .ok (.bipush 30, 2) := by decide +kernel
theorem dX0_init_34 : decode cX0_init 34 = .ok (.newarray .int, 2) := by decide +kernel
theorem dX0_init_36 : decode cX0_init 36 = .ok (.putfield 21, 3) := by decide +kernel
theorem dX0_init_39 : decode cX0_init 39 = .ok (.aload_n 0, 1) := by decide +kernel
theorem dX0_init_40 : decode cX0_init 40 = .ok (.bipush 30, 2) := by decide +kernel
theorem dX0_init_42 : decode cX0_init 42 = .ok (.newarray .boolean, 2) := by decide +kernel
theorem dX0_init_44 : decode cX0_init 44 = .ok (.putfield 24, 3) := by decide +kernel
theorem dX0_init_47 : decode cX0_init 47 = .ok (.aload_n 0, 1) := by decide +kernel
theorem dX0_init_48 : decode cX0_init 48 = .ok (.bipush 30, 2) := by decide +kernel
theorem dX0_init_50 : decode cX0_init 50 = .ok (.newarray .int, 2) := by decide +kernel
theorem dX0_init_52 : decode cX0_init 52 = .ok (.putfield 28, 3) := by decide +kernel
theorem dX0_init_55 : decode cX0_init 55 = .ok (.aload_n 0, 1) := by decide +kernel
theorem dX0_init_56 : decode cX0_init 56 = .ok (.bipush 6, 2) := by decide +kernel
theorem dX0_init_58 : decode cX0_init 58 = .ok (.newarray .int, 2) := by decide +kernel
theorem dX0_init_60 : decode cX0_init 60 = .ok (.putfield 31, 3) := by decide +kernel
theorem dX0_init_63 : decode cX0_init 63 = .ok (.aload_n 0, 1) := by decide +kernel
theorem dX0_init_64 : decode cX0_init 64 = .ok (.bipush 6, 2) := by decide +kernel
theorem dX0_init_66 : decode cX0_init 66 = .ok (.newarray .boolean, 2) := by decide +kernel
theorem dX0_init_68 : decode cX0_init 68 = .ok (.putfield 34, 3) := by decide +kernel
theorem dX0_init_71 : decode cX0_init 71 = .ok (.aload_n 0, 1) := by decide +kernel
theorem dX0_init_72 : decode cX0_init 72 = .ok (.getfield 28, 3) := by decide +kernel
theorem dX0_init_75 : decode cX0_init 75 = .ok (.bipush (-4), 2) := by decide +kernel
theorem dX0_init_77 : decode cX0_init 77 = .ok (.invokestatic 37, 3) := by decide +kernel
theorem dX0_init_80 : decode cX0_init 80 = .ok (.return_, 1) := by decide +kernel
theorem dX0_add_0 : decode cX0_add 0 = .ok (.aload_n 0, 1) := by decide +kernel
theorem dX0_add_1 : decode cX0_add 1 = .ok (.getfield 43, 3) := by decide +kernel
theorem dX0_add_4 : decode cX0_add 4 = .ok (.sipush 200, 3) := by decide +kernel
theorem dX0_add_7 : decode cX0_add 7 = .ok (.if_icmp .lt 4, 3) := by decide +kernel
theorem dX0_add_10 : decode cX0_add 10 = .ok (.return_, 1) := by decide +kernel
theorem dX0_add_11 : decode cX0_add 11 = .ok (.aload_n 0, 1) := by decide +kernel
theorem dX0_add_12 : decode cX0_add 12 = .ok (.getfield 11, 3) := by decide +kernel
theorem dX0_add_15 : decode cX0_add 15 = .ok (.aload_n 0, 1) := by decide +kernel
theorem dX0_add_16 : decode cX0_add 16 = .ok (.getfield 43, 3) := by decide +kernel
theorem dX0_add_19 : decode cX0_add 19 = .ok (.bipush (-4), 2) := by decide +kernel
theorem dX0_add_21 : decode cX0_add 21 = .ok (.iastore, 1) := by decide +kernel
theorem dX0_add_22 : decode cX0_add 22 = .ok (.aload_n 0, 1) := by decide +kernel
theorem dX0_add_23 : decode cX0_add 23 = .ok (.getfield 15, 3) := by decide +kernel
theorem dX0_add_26 : decode cX0_add 26 = .ok (.aload_n 0, 1) := by decide +kernel
theorem dX0_add_27 : decode cX0_add 27 = .ok (.getfield 43, 3) := by decide +kernel
theorem dX0_add_30 : decode cX0_add 30 = .ok (.iload_n 1, 1) := by decide +kernel
theorem dX0_add_31 : decode cX0_add 31 = .ok (.iastore, 1) := by decide +kernel
theorem dX0_add_32 : decode cX0_add 32 = .ok (.aload_n 0, 1) := by decide +kernel
theorem dX0_add_33 : decode cX0_add 33 = .ok (.getfield 18, 3) := by decide +kernel
theorem dX0_add_36 : decode cX0_add 36 = .ok (.aload_n 0, 1) := by decide +kernel
theorem dX0_add_37 : decode cX0_add 37 = .ok (.getfield 43, 3) := by decide +kernel
theorem dX0_add_40 : decode cX0_add 40 = .ok (.bipush (-4), 2) := by decide +kernel
theorem dX0_add_42 : decode cX0_add 42 = .ok (.iastore, 1) := by decide +kernel
theorem dX0_add_43 : decode cX0_add 43 = .ok (.aload_n 0, 1) := by decide +kernel
theorem dX0_add_44 : decode cX0_add 44 = .ok (.dup, 1) := by decide +kernel
theorem dX0_add_45 : decode cX0_add 45 = .ok (.getfield 43, 3) := by decide +kernel
theorem dX0_add_48 : decode cX0_add 48 = .ok (.iconst 1, 1) := by decide +kernel
theorem dX0_add_49 : decode cX0_add 49 = .ok (.iadd, 1) := by decide +kernel
theorem dX0_add_50 : decode cX0_add 50 = .ok (.putfield 43, 3) := by decide +kernel
theorem dX0_add_53 : decode cX0_add 53 = .ok (.return_, 1) := by decide +kernel
set_option maxRecDepth 20000 in
theorem ggX0_known_X6_within : GoodIn wsX0_known wsX6_within := goodIn_r _ [4] (by decide +kernel) (by decide +kernel)
set_option maxRecDepth 20000 in
theorem gX0_known_X6_within_n47 : GoodIn wsX0_known (wsX6_within) := ggX0_known_X6_within
theorem dX0_known_0 : decode cX0_known 0 = .ok (.iload_n 1, 1) := by decide +kernel
theorem dX0_known_1 : decode cX0_known 1 = .ok (.iconst 0, 1) := by decide +kernel
theorem dX0_known_2 : decode cX0_known 2 = .ok (.aload_n 0, 1) := by decide +kernel
theorem dX0_known_3 : decode cX0_known 3 = .ok (.getfield 43, 3) := by decide +kernel
theorem dX0_known_6 : decode cX0_known 6 = .ok (.iconst 1, 1) := by decide +kernel
theorem dX0_known_7 : decode cX0_known 7 = .ok (.isub, 1) := by decide +kernel
theorem dX0_known_8 : decode cX0_known 8 = .ok (.invokestatic 47, 3) := by decide +kernel
theorem dX0_known_11 : decode cX0_known 11 = .ok (.ireturn, 1) := by decide +kernel
set_option maxRecDepth 20000 in
theorem ggX0_packInto_X0_known : GoodIn wsX0_packInto wsX0_known := goodIn_r _ [8, 9, 10, 11, 12, 13, 14, 15, 16, 17, 18, 19, 20, 21] (by decide +kernel) (by decide +kernel)
set_option maxRecDepth 20000 in
theorem gX0_packInto_X0_known : GoodIn wsX0_packInto (wsV RX0 51 RX0 yX0_known wsX0_known) := goodIn_app (goodIn_of _ (by decide +kernel)) ggX0_packInto_X0_known
theorem dX0_packInto_0 : decode cX0_packInto 0 = .ok (.aload_n 0, 1) := by decide +kernel
theorem dX0_packInto_1 : decode cX0_packInto 1 = .ok (.iload_n 1, 1) := by decide +kernel
theorem dX0_packInto_2 : decode cX0_packInto 2 = .ok (.invokevirtual 51, 3) := by decide +kernel
theorem dX0_packInto_5 : decode cX0_packInto 5 = .ok (.ifCond .eq 23, 3) := by decide +kernel
theorem dX0_packInto_8 : decode cX0_packInto 8 = .ok (.aload_n 0, 1) := by decide +kernel
theorem dX0_packInto_9 : decode cX0_packInto 9 = .ok (.getfield 11, 3) := by decide +kernel
theorem dX0_packInto_12 : decode cX0_packInto 12 = .ok (.iload_n 1, 1) := by decide +kernel
theorem dX0_packInto_13 : decode cX0_packInto 13 = .ok (.iaload, 1) := by decide +kernel
theorem dX0_packInto_14 : decode cX0_packInto 14 = .ok (.bipush (-4), 2) := by decide +kernel
theorem dX0_packInto_16 : decode cX0_packInto 16 = .ok (.if_icmp .ne 12, 3) := by decide +kernel
theorem dX0_packInto_19 : decode cX0_packInto 19 = .ok (.aload_n 0, 1) := by decide +kernel
theorem dX0_packInto_20 : decode cX0_packInto 20 = .ok (.getfield 24, 3) := by decide +kernel
theorem dX0_packInto_23 : decode cX0_packInto 23 = .ok (.iload_n 2, 1) := by decide +kernel
theorem dX0_packInto_24 : decode cX0_packInto 24 = .ok (.baload, 1) := by decide +kernel
theorem dX0_packInto_25 : decode cX0_packInto 25 = .ok (.ifCond .eq 6, 3) := by decide +kernel
theorem dX0_packInto_28 : decode cX0_packInto 28 = .ok (.bipush (-2), 2) := by decide +kernel
theorem dX0_packInto_30 : decode cX0_packInto 30 = .ok (.ireturn, 1) := by decide +kernel
theorem dX0_packInto_31 : decode cX0_packInto 31 = .ok (.aload_n 0, 1) := by decide +kernel
theorem dX0_packInto_32 : decode cX0_packInto 32 = .ok (.getfield 21, 3) := by decide +kernel
theorem dX0_packInto_35 : decode cX0_packInto 35 = .ok (.iload_n 2, 1) := by decide +kernel
theorem dX0_packInto_36 : decode cX0_packInto 36 = .ok (.iaload, 1) := by decide +kernel
theorem dX0_packInto_37 : decode cX0_packInto 37 = .ok (.iload_n 3, 1) := by decide +kernel
theorem dX0_packInto_38 : decode cX0_packInto 38 = .ok (.if_icmp .lt 6, 3) := by decide +kernel
theorem dX0_packInto_41 : decode cX0_packInto 41 = .ok (.bipush (-3), 2) := by decide +kernel
theorem dX0_packInto_43 : decode cX0_packInto 43 = .ok (.ireturn, 1) := by decide +kernel
theorem dX0_packInto_44 : decode cX0_packInto 44 = .ok (.aload_n 0, 1) := by decide +kernel
theorem dX0_packInto_45 : decode cX0_packInto 45 = .ok (.getfield 11, 3) := by decide +kernel
theorem dX0_packInto_48 : decode cX0_packInto 48 = .ok (.iload_n 1, 1) := by decide +kernel
theorem dX0_packInto_49 : decode cX0_packInto 49 = .ok (.iload_n 2, 1) := by decide +kernel
theorem dX0_packInto_50 : decode cX0_packInto 50 = .ok (.iastore, 1) := by decide +kernel
theorem dX0_packInto_51 : decode cX0_packInto 51 = .ok (.aload_n 0, 1) := by decide +kernel
theorem dX0_packInto_52 : decode cX0_packInto 52 = .ok (.getfield 21, 3) := by decide +kernel
theorem dX0_packInto_55 : decode cX0_packInto 55 = .ok (.iload_n 2, 1) := by decide +kernel
theorem dX0_packInto_56 : decode cX0_packInto 56 = .ok (.dup2, 1) := by decide +kernel
theorem dX0_packInto_57 : decode cX0_packInto 57 = .ok (.iaload, 1) := by decide +kernel
theorem dX0_packInto_58 : decode cX0_packInto 58 = .ok (.iconst 1, 1) := by decide +kernel
theorem dX0_packInto_59 : decode cX0_packInto 59 = .ok (.iadd, 1) := by decide +kernel
theorem dX0_packInto_60 : decode cX0_packInto 60 = .ok (.iastore, 1) := by decide +kernel
theorem dX0_packInto_61 : decode cX0_packInto 61 = .ok (.aload_n 0, 1) := by decide +kernel
theorem dX0_packInto_62 : decode cX0_packInto 62 = .ok (.getfield 21, 3) := by decide +kernel
theorem dX0_packInto_65 : decode cX0_packInto 65 = .ok (.iload_n 2, 1) := by decide +kernel
theorem dX0_packInto_66 : decode cX0_packInto 66 = .ok (.iaload, 1) := by decide +kernel
theorem dX0_packInto_67 : decode cX0_packInto 67 = .ok (.ireturn, 1) := by decide +kernel
theorem dX0_closeBox_0 : decode cX0_closeBox 0 = .ok (.aload_n 0, 1) := by decide +kernel
theorem dX0_closeBox_1 : decode cX0_closeBox 1 = .ok (.getfield 24, 3) := by decide +kernel
theorem dX0_closeBox_4 : decode cX0_closeBox 4 = .ok (.iload_n 1, 1) := by decide +kernel
theorem dX0_closeBox_5 : decode cX0_closeBox 5 = .ok (.baload, 1) := by decide +kernel
theorem dX0_closeBox_6 : decode cX0_closeBox 6 = .ok (.ifCond .ne 13, 3) := by decide +kernel
theorem dX0_closeBox_9 : decode cX0_closeBox 9 = .ok (.aload_n 0, 1) := by decide +kernel
theorem dX0_closeBox_10 : decode cX0_closeBox 10 = .ok (.getfield 21, 3) := by decide +kernel
theorem dX0_closeBox_13 : decode cX0_closeBox 13 = .ok (.iload_n 1, 1) := by decide +kernel
theorem dX0_closeBox_14 : decode cX0_closeBox 14 = .ok (.iaload, 1) := by decide +kernel
theorem dX0_closeBox_15 : decode cX0_closeBox 15 = .ok (.iload_n 2, 1) := by decide +kernel
theorem dX0_closeBox_16 : decode cX0_closeBox 16 = .ok (.if_icmp .eq 6, 3) := by decide +kernel
theorem dX0_closeBox_19 : decode cX0_closeBox 19 = .ok (.bipush (-2), 2) := by decide +kernel
theorem dX0_closeBox_21 : decode cX0_closeBox 21 = .ok (.ireturn, 1) := by decide +kernel
theorem dX0_closeBox_22 : decode cX0_closeBox 22 = .ok (.aload_n 0, 1) := by decide +kernel
theorem dX0_closeBox_23 : decode cX0_closeBox 23 = .ok (.getfield 24, 3) := by decide +kernel
theorem dX0_closeBox_26 : decode cX0_closeBox 26 = .ok (.iload_n 1, 1) := by decide +kernel
theorem dX0_closeBox_27 : decode cX0_closeBox 27 = .ok (.iconst 1, 1) := by decide +kernel
theorem dX0_closeBox_28 : decode cX0_closeBox 28 = .ok (.bastore, 1) := by decide +kernel
theorem dX0_closeBox_29 : decode cX0_closeBox 29 = .ok (.iconst 0, 1) := by decide +kernel
theorem dX0_closeBox_30 : decode cX0_closeBox 30 = .ok (.ireturn, 1) := by decide +kernel
set_option maxRecDepth 20000 in
theorem ggX0_closeWithLost_X0_leastIn : GoodIn wsX0_closeWithLost wsX0_leastIn := goodIn_r _ [8, 9, 3, 29, 30, 31, 32, 33, 34, 35, 36, 37] (by decide +kernel) (by decide +kernel)
set_option maxRecDepth 20000 in
theorem gX0_closeWithLost_X0_leastIn : GoodIn wsX0_closeWithLost (wsV RX0 55 RX0 yX0_leastIn wsX0_leastIn) := goodIn_app (goodIn_of _ (by decide +kernel)) ggX0_closeWithLost_X0_leastIn
set_option maxRecDepth 20000 in
theorem ggX0_closeWithLost_X0_greatestIn : GoodIn wsX0_closeWithLost wsX0_greatestIn := goodIn_r _ [13, 9, 3, 29, 30, 31, 32, 33, 34, 35, 36, 37] (by decide +kernel) (by decide +kernel)
set_option maxRecDepth 20000 in
theorem gX0_closeWithLost_X0_greatestIn : GoodIn wsX0_closeWithLost (wsV RX0 59 RX0 yX0_greatestIn wsX0_greatestIn) := goodIn_app (goodIn_of _ (by decide +kernel)) ggX0_closeWithLost_X0_greatestIn
set_option maxRecDepth 20000 in
theorem ggX0_closeWithLost_X0_onlyLooseIn : GoodIn wsX0_closeWithLost wsX0_onlyLooseIn := goodIn_r _ [17, 18, 19, 20, 21, 9, 3, 29, 30, 31, 32, 33, 34, 35, 36, 37] (by decide +kernel) (by decide +kernel)
set_option maxRecDepth 20000 in
theorem gX0_closeWithLost_X0_onlyLooseIn : GoodIn wsX0_closeWithLost (wsV RX0 62 RX0 yX0_onlyLooseIn wsX0_onlyLooseIn) := goodIn_app (goodIn_of _ (by decide +kernel)) ggX0_closeWithLost_X0_onlyLooseIn
set_option maxRecDepth 20000 in
theorem ggX0_closeWithLost_X0_known : GoodIn wsX0_closeWithLost wsX0_known := goodIn_r _ [25, 9, 26, 27, 28, 29, 30, 31, 32, 33, 34, 35, 36, 37] (by decide +kernel) (by decide +kernel)
set_option maxRecDepth 20000 in
theorem gX0_closeWithLost_X0_known : GoodIn wsX0_closeWithLost (wsV RX0 51 RX0 yX0_known wsX0_known) := goodIn_app (goodIn_of _ (by decide +kernel)) ggX0_closeWithLost_X0_known
theorem dX0_closeWithLost_0 : decode cX0_closeWithLost 0 = .ok (.aload_n 0, 1) := by decide +kernel
theorem dX0_closeWithLost_1 : decode cX0_closeWithLost 1 = .ok (.getfield 24, 3) := by decide +kernel
theorem dX0_closeWithLost_4 : decode cX0_closeWithLost 4 = .ok (.iload_n 1, 1) := by decide +kernel
theorem dX0_closeWithLost_5 : decode cX0_closeWithLost 5 = .ok (.baload, 1) := by decide +kernel
theorem dX0_closeWithLost_6 : decode cX0_closeWithLost 6 = .ok (.ifCond .ne 15, 3) := by decide +kernel
theorem dX0_closeWithLost_9 : decode cX0_closeWithLost 9 = .ok (.aload_n 0, 1) := by decide +kernel
theorem dX0_closeWithLost_10 : decode cX0_closeWithLost 10 = .ok (.getfield 21, 3) := by decide +kernel
theorem dX0_closeWithLost_13 : decode cX0_closeWithLost 13 = .ok (.iload_n 1, 1) := by decide +kernel
theorem dX0_closeWithLost_14 : decode cX0_closeWithLost 14 = .ok (.iaload, 1) := by decide +kernel
theorem dX0_closeWithLost_15 : decode cX0_closeWithLost 15 = .ok (.iload_n 2, 1) := by decide +kernel
theorem dX0_closeWithLost_16 : decode cX0_closeWithLost 16 = .ok (.iconst 1, 1) := by decide +kernel
theorem dX0_closeWithLost_17 : decode cX0_closeWithLost 17 = .ok (.isub, 1) := by decide +kernel
theorem dX0_closeWithLost_18 : decode cX0_closeWithLost 18 = .ok (.if_icmp .eq 6, 3) := by decide +kernel
theorem dX0_closeWithLost_21 : decode cX0_closeWithLost 21 = .ok (.bipush (-2), 2) := by decide +kernel
theorem dX0_closeWithLost_23 : decode cX0_closeWithLost 23 = .ok (.ireturn, 1) := by decide +kernel
theorem dX0_closeWithLost_24 : decode cX0_closeWithLost 24 = .ok (.aload_n 0, 1) := by decide +kernel
theorem dX0_closeWithLost_25 : decode cX0_closeWithLost 25 = .ok (.aload_n 0, 1) := by decide +kernel
theorem dX0_closeWithLost_26 : decode cX0_closeWithLost 26 = .ok (.iload_n 1, 1) := by decide +kernel
theorem dX0_closeWithLost_27 : decode cX0_closeWithLost 27 = .ok (.invokevirtual 55, 3) := by decide +kernel
theorem dX0_closeWithLost_30 : decode cX0_closeWithLost 30 = .ok (.aload_n 0, 1) := by decide +kernel
theorem dX0_closeWithLost_31 : decode cX0_closeWithLost 31 = .ok (.iload_n 1, 1) := by decide +kernel
theorem dX0_closeWithLost_32 : decode cX0_closeWithLost 32 = .ok (.invokevirtual 59, 3) := by decide +kernel
theorem dX0_closeWithLost_35 : decode cX0_closeWithLost 35 = .ok (.invokevirtual 62, 3) := by decide +kernel
theorem dX0_closeWithLost_38 : decode cX0_closeWithLost 38 = .ok (.istore_n 3, 1) := by decide +kernel
theorem dX0_closeWithLost_39 : decode cX0_closeWithLost 39 = .ok (.aload_n 0, 1) := by decide +kernel
theorem dX0_closeWithLost_40 : decode cX0_closeWithLost 40 = .ok (.iload_n 3, 1) := by decide +kernel
theorem dX0_closeWithLost_41 : decode cX0_closeWithLost 41 = .ok (.invokevirtual 51, 3) := by decide +kernel
theorem dX0_closeWithLost_44 : decode cX0_closeWithLost 44 = .ok (.ifCond .ne 6, 3) := by decide +kernel
theorem dX0_closeWithLost_47 : decode cX0_closeWithLost 47 = .ok (.bipush (-2), 2) := by decide +kernel
theorem dX0_closeWithLost_49 : decode cX0_closeWithLost 49 = .ok (.ireturn, 1) := by decide +kernel
theorem dX0_closeWithLost_50 : decode cX0_closeWithLost 50 = .ok (.aload_n 0, 1) := by decide +kernel
theorem dX0_closeWithLost_51 : decode cX0_closeWithLost 51 = .ok (.getfield 11, 3) := by decide +kernel
theorem dX0_closeWithLost_54 : decode cX0_closeWithLost 54 = .ok (.iload_n 3, 1) := by decide +kernel
theorem dX0_closeWithLost_55 : decode cX0_closeWithLost 55 = .ok (.iload_n 1, 1) := by decide +kernel
theorem dX0_closeWithLost_56 : decode cX0_closeWithLost 56 = .ok (.iastore, 1) := by decide +kernel
theorem dX0_closeWithLost_57 : decode cX0_closeWithLost 57 = .ok (.aload_n 0, 1) := by decide +kernel
theorem dX0_closeWithLost_58 : decode cX0_closeWithLost 58 = .ok (.getfield 21, 3) := by decide +kernel
theorem dX0_closeWithLost_61 : decode cX0_closeWithLost 61 = .ok (.iload_n 1, 1) := by decide +kernel
theorem dX0_closeWithLost_62 : decode cX0_closeWithLost 62 = .ok (.dup2, 1) := by decide +kernel
theorem dX0_closeWithLost_63 : decode cX0_closeWithLost 63 = .ok (.iaload, 1) := by decide +kernel
theorem dX0_closeWithLost_64 : decode cX0_closeWithLost 64 = .ok (.iconst 1, 1) := by decide +kernel
theorem dX0_closeWithLost_65 : decode cX0_closeWithLost 65 = .ok (.iadd, 1) := by decide +kernel
theorem dX0_closeWithLost_66 : decode cX0_closeWithLost 66 = .ok (.iastore, 1) := by decide +kernel
theorem dX0_closeWithLost_67 : decode cX0_closeWithLost 67 = .ok (.aload_n 0, 1) := by decide +kernel
theorem dX0_closeWithLost_68 : decode cX0_closeWithLost 68 = .ok (.getfield 24, 3) := by decide +kernel
theorem dX0_closeWithLost_71 : decode cX0_closeWithLost 71 = .ok (.iload_n 1, 1) := by decide +kernel
theorem dX0_closeWithLost_72 : decode cX0_closeWithLost 72 = .ok (.iconst 1, 1) := by decide +kernel
theorem dX0_closeWithLost_73 : decode cX0_closeWithLost 73 = .ok (.bastore, 1) := by decide +kernel
theorem dX0_closeWithLost_74 : decode cX0_closeWithLost 74 = .ok (.iload_n 3, 1) := by decide +kernel
theorem dX0_closeWithLost_75 : decode cX0_closeWithLost 75 = .ok (.ireturn, 1) := by decide +kernel
theorem dX0_onlyLooseIn_0 : decode cX0_onlyLooseIn 0 = .ok (.bipush (-4), 2) := by decide +kernel
theorem dX0_onlyLooseIn_2 : decode cX0_onlyLooseIn 2 = .ok (.istore_n 3, 1) := by decide +kernel
theorem dX0_onlyLooseIn_3 : decode cX0_onlyLooseIn 3 = .ok (.iload_n 1, 1) := by decide +kernel
theorem dX0_onlyLooseIn_4 : decode cX0_onlyLooseIn 4 = .ok (.iconst 0, 1) := by decide +kernel
theorem dX0_onlyLooseIn_5 : decode cX0_onlyLooseIn 5 = .ok (.invokestatic 66, 3) := by decide +kernel
theorem dX0_onlyLooseIn_8 : decode cX0_onlyLooseIn 8 = .ok (.istore 4, 2) := by decide +kernel
theorem dX0_onlyLooseIn_10 : decode cX0_onlyLooseIn 10 = .ok (.iload 4, 2) := by decide +kernel
theorem dX0_onlyLooseIn_12 : decode cX0_onlyLooseIn 12 = .ok (.aload_n 0, 1) := by decide +kernel
theorem dX0_onlyLooseIn_13 : decode cX0_onlyLooseIn 13 = .ok (.getfield 43, 3) := by decide +kernel
theorem dX0_onlyLooseIn_16 : decode cX0_onlyLooseIn 16 = .ok (.if_icmp .ge 39, 3) := by decide +kernel
theorem dX0_onlyLooseIn_19 : decode cX0_onlyLooseIn 19 = .ok (.iload 4, 2) := by decide +kernel
theorem dX0_onlyLooseIn_21 : decode cX0_onlyLooseIn 21 = .ok (.iload_n 2, 1) := by decide +kernel
theorem dX0_onlyLooseIn_22 : decode cX0_onlyLooseIn 22 = .ok (.if_icmp .gt 33, 3) := by decide +kernel
theorem dX0_onlyLooseIn_25 : decode cX0_onlyLooseIn 25 = .ok (.aload_n 0, 1) := by decide +kernel
theorem dX0_onlyLooseIn_26 : decode cX0_onlyLooseIn 26 = .ok (.getfield 11, 3) := by decide +kernel
theorem dX0_onlyLooseIn_29 : decode cX0_onlyLooseIn 29 = .ok (.iload 4, 2) := by decide +kernel
theorem dX0_onlyLooseIn_31 : decode cX0_onlyLooseIn 31 = .ok (.iaload, 1) := by decide +kernel
theorem dX0_onlyLooseIn_32 : decode cX0_onlyLooseIn 32 = .ok (.bipush (-4), 2) := by decide +kernel
theorem dX0_onlyLooseIn_34 : decode cX0_onlyLooseIn 34 = .ok (.if_icmp .ne 15, 3) := by decide +kernel
theorem dX0_onlyLooseIn_37 : decode cX0_onlyLooseIn 37 = .ok (.iload_n 3, 1) := by decide +kernel
theorem dX0_onlyLooseIn_38 : decode cX0_onlyLooseIn 38 = .ok (.bipush (-4), 2) := by decide +kernel
theorem dX0_onlyLooseIn_40 : decode cX0_onlyLooseIn 40 = .ok (.if_icmp .eq 6, 3) := by decide +kernel
theorem dX0_onlyLooseIn_43 : decode cX0_onlyLooseIn 43 = .ok (.bipush (-4), 2) := by decide +kernel
theorem dX0_onlyLooseIn_45 : decode cX0_onlyLooseIn 45 = .ok (.ireturn, 1) := by decide +kernel
theorem dX0_onlyLooseIn_46 : decode cX0_onlyLooseIn 46 = .ok (.iload 4, 2) := by decide +kernel
theorem dX0_onlyLooseIn_48 : decode cX0_onlyLooseIn 48 = .ok (.istore_n 3, 1) := by decide +kernel
theorem dX0_onlyLooseIn_49 : decode cX0_onlyLooseIn 49 = .ok (.iinc 4 1, 3) := by decide +kernel
theorem dX0_onlyLooseIn_52 : decode cX0_onlyLooseIn 52 = .ok (.goto (-42), 3) := by decide +kernel
theorem dX0_onlyLooseIn_55 : decode cX0_onlyLooseIn 55 = .ok (.iload_n 3, 1) := by decide +kernel
theorem dX0_onlyLooseIn_56 : decode cX0_onlyLooseIn 56 = .ok (.ireturn, 1) := by decide +kernel
theorem dX0_stackOn_0 : decode cX0_stackOn 0 = .ok (.aload_n 0, 1) := by decide +kernel
theorem dX0_stackOn_1 : decode cX0_stackOn 1 = .ok (.getfield 24, 3) := by decide +kernel
theorem dX0_stackOn_4 : decode cX0_stackOn 4 = .ok (.iload_n 1, 1) := by decide +kernel
theorem dX0_stackOn_5 : decode cX0_stackOn 5 = .ok (.baload, 1) := by decide +kernel
theorem dX0_stackOn_6 : decode cX0_stackOn 6 = .ok (.ifCond .eq 23, 3) := by decide +kernel
theorem dX0_stackOn_9 : decode cX0_stackOn 9 = .ok (.aload_n 0, 1) := by decide +kernel
theorem dX0_stackOn_10 : decode cX0_stackOn 10 = .ok (.getfield 28, 3) := by decide +kernel
theorem dX0_stackOn_13 : decode cX0_stackOn 13 = .ok (.iload_n 1, 1) := by decide +kernel
theorem dX0_stackOn_14 : decode cX0_stackOn 14 = .ok (.iaload, 1) := by decide +kernel
theorem dX0_stackOn_15 : decode cX0_stackOn 15 = .ok (.bipush (-4), 2) := by decide +kernel
theorem dX0_stackOn_17 : decode cX0_stackOn 17 = .ok (.if_icmp .ne 12, 3) := by decide +kernel
theorem dX0_stackOn_20 : decode cX0_stackOn 20 = .ok (.aload_n 0, 1) := by decide +kernel
theorem dX0_stackOn_21 : decode cX0_stackOn 21 = .ok (.getfield 34, 3) := by decide +kernel
theorem dX0_stackOn_24 : decode cX0_stackOn 24 = .ok (.iload_n 2, 1) := by decide +kernel
theorem dX0_stackOn_25 : decode cX0_stackOn 25 = .ok (.baload, 1) := by decide +kernel
theorem dX0_stackOn_26 : decode cX0_stackOn 26 = .ok (.ifCond .eq 6, 3) := by decide +kernel
theorem dX0_stackOn_29 : decode cX0_stackOn 29 = .ok (.bipush (-2), 2) := by decide +kernel
theorem dX0_stackOn_31 : decode cX0_stackOn 31 = .ok (.ireturn, 1) := by decide +kernel
theorem dX0_stackOn_32 : decode cX0_stackOn 32 = .ok (.aload_n 0, 1) := by decide +kernel
theorem dX0_stackOn_33 : decode cX0_stackOn 33 = .ok (.getfield 31, 3) := by decide +kernel
theorem dX0_stackOn_36 : decode cX0_stackOn 36 = .ok (.iload_n 2, 1) := by decide +kernel
theorem dX0_stackOn_37 : decode cX0_stackOn 37 = .ok (.iaload, 1) := by decide +kernel
theorem dX0_stackOn_38 : decode cX0_stackOn 38 = .ok (.iload_n 3, 1) := by decide +kernel
theorem dX0_stackOn_39 : decode cX0_stackOn 39 = .ok (.if_icmp .lt 6, 3) := by decide +kernel
theorem dX0_stackOn_42 : decode cX0_stackOn 42 = .ok (.bipush (-3), 2) := by decide +kernel
theorem dX0_stackOn_44 : decode cX0_stackOn 44 = .ok (.ireturn, 1) := by decide +kernel
theorem dX0_stackOn_45 : decode cX0_stackOn 45 = .ok (.aload_n 0, 1) := by decide +kernel
theorem dX0_stackOn_46 : decode cX0_stackOn 46 = .ok (.getfield 28, 3) := by decide +kernel
theorem dX0_stackOn_49 : decode cX0_stackOn 49 = .ok (.iload_n 1, 1) := by decide +kernel
theorem dX0_stackOn_50 : decode cX0_stackOn 50 = .ok (.iload_n 2, 1) := by decide +kernel
theorem dX0_stackOn_51 : decode cX0_stackOn 51 = .ok (.iastore, 1) := by decide +kernel
theorem dX0_stackOn_52 : decode cX0_stackOn 52 = .ok (.aload_n 0, 1) := by decide +kernel
theorem dX0_stackOn_53 : decode cX0_stackOn 53 = .ok (.getfield 31, 3) := by decide +kernel
theorem dX0_stackOn_56 : decode cX0_stackOn 56 = .ok (.iload_n 2, 1) := by decide +kernel
theorem dX0_stackOn_57 : decode cX0_stackOn 57 = .ok (.dup2, 1) := by decide +kernel
theorem dX0_stackOn_58 : decode cX0_stackOn 58 = .ok (.iaload, 1) := by decide +kernel
theorem dX0_stackOn_59 : decode cX0_stackOn 59 = .ok (.iconst 1, 1) := by decide +kernel
theorem dX0_stackOn_60 : decode cX0_stackOn 60 = .ok (.iadd, 1) := by decide +kernel
theorem dX0_stackOn_61 : decode cX0_stackOn 61 = .ok (.iastore, 1) := by decide +kernel
theorem dX0_stackOn_62 : decode cX0_stackOn 62 = .ok (.aload_n 0, 1) := by decide +kernel
theorem dX0_stackOn_63 : decode cX0_stackOn 63 = .ok (.getfield 31, 3) := by decide +kernel
theorem dX0_stackOn_66 : decode cX0_stackOn 66 = .ok (.iload_n 2, 1) := by decide +kernel
theorem dX0_stackOn_67 : decode cX0_stackOn 67 = .ok (.iaload, 1) := by decide +kernel
theorem dX0_stackOn_68 : decode cX0_stackOn 68 = .ok (.ireturn, 1) := by decide +kernel
theorem dX0_sealPallet_0 : decode cX0_sealPallet 0 = .ok (.aload_n 0, 1) := by decide +kernel
theorem dX0_sealPallet_1 : decode cX0_sealPallet 1 = .ok (.getfield 34, 3) := by decide +kernel
theorem dX0_sealPallet_4 : decode cX0_sealPallet 4 = .ok (.iload_n 1, 1) := by decide +kernel
theorem dX0_sealPallet_5 : decode cX0_sealPallet 5 = .ok (.baload, 1) := by decide +kernel
theorem dX0_sealPallet_6 : decode cX0_sealPallet 6 = .ok (.ifCond .ne 12, 3) := by decide +kernel
theorem dX0_sealPallet_9 : decode cX0_sealPallet 9 = .ok (.aload_n 0, 1) := by decide +kernel
theorem dX0_sealPallet_10 : decode cX0_sealPallet 10 = .ok (.getfield 31, 3) := by decide +kernel
theorem dX0_sealPallet_13 : decode cX0_sealPallet 13 = .ok (.iload_n 1, 1) := by decide +kernel
theorem dX0_sealPallet_14 : decode cX0_sealPallet 14 = .ok (.iaload, 1) := by decide +kernel
theorem dX0_sealPallet_15 : decode cX0_sealPallet 15 = .ok (.ifCond .ne 6, 3) := by decide +kernel
theorem dX0_sealPallet_18 : decode cX0_sealPallet 18 = .ok (.bipush (-2), 2) := by decide +kernel
theorem dX0_sealPallet_20 : decode cX0_sealPallet 20 = .ok (.ireturn, 1) := by decide +kernel
theorem dX0_sealPallet_21 : decode cX0_sealPallet 21 = .ok (.aload_n 0, 1) := by decide +kernel
theorem dX0_sealPallet_22 : decode cX0_sealPallet 22 = .ok (.getfield 34, 3) := by decide +kernel
theorem dX0_sealPallet_25 : decode cX0_sealPallet 25 = .ok (.iload_n 1, 1) := by decide +kernel
theorem dX0_sealPallet_26 : decode cX0_sealPallet 26 = .ok (.iconst 1, 1) := by decide +kernel
theorem dX0_sealPallet_27 : decode cX0_sealPallet 27 = .ok (.bastore, 1) := by decide +kernel
theorem dX0_sealPallet_28 : decode cX0_sealPallet 28 = .ok (.aload_n 0, 1) := by decide +kernel
theorem dX0_sealPallet_29 : decode cX0_sealPallet 29 = .ok (.getfield 31, 3) := by decide +kernel
theorem dX0_sealPallet_32 : decode cX0_sealPallet 32 = .ok (.iload_n 1, 1) := by decide +kernel
theorem dX0_sealPallet_33 : decode cX0_sealPallet 33 = .ok (.iaload, 1) := by decide +kernel
theorem dX0_sealPallet_34 : decode cX0_sealPallet 34 = .ok (.ireturn, 1) := by decide +kernel
theorem dX0_breakBox_0 : decode cX0_breakBox 0 = .ok (.aload_n 0, 1) := by decide +kernel
theorem dX0_breakBox_1 : decode cX0_breakBox 1 = .ok (.getfield 28, 3) := by decide +kernel
theorem dX0_breakBox_4 : decode cX0_breakBox 4 = .ok (.iload_n 1, 1) := by decide +kernel
theorem dX0_breakBox_5 : decode cX0_breakBox 5 = .ok (.iaload, 1) := by decide +kernel
theorem dX0_breakBox_6 : decode cX0_breakBox 6 = .ok (.bipush (-4), 2) := by decide +kernel
theorem dX0_breakBox_8 : decode cX0_breakBox 8 = .ok (.if_icmp .eq 6, 3) := by decide +kernel
theorem dX0_breakBox_11 : decode cX0_breakBox 11 = .ok (.bipush (-2), 2) := by decide +kernel
theorem dX0_breakBox_13 : decode cX0_breakBox 13 = .ok (.ireturn, 1) := by decide +kernel
theorem dX0_breakBox_14 : decode cX0_breakBox 14 = .ok (.aload_n 0, 1) := by decide +kernel
theorem dX0_breakBox_15 : decode cX0_breakBox 15 = .ok (.getfield 21, 3) := by decide +kernel
theorem dX0_breakBox_18 : decode cX0_breakBox 18 = .ok (.iload_n 1, 1) := by decide +kernel
theorem dX0_breakBox_19 : decode cX0_breakBox 19 = .ok (.iaload, 1) := by decide +kernel
theorem dX0_breakBox_20 : decode cX0_breakBox 20 = .ok (.istore_n 2, 1) := by decide +kernel
theorem dX0_breakBox_21 : decode cX0_breakBox 21 = .ok (.iconst 0, 1) := by decide +kernel
theorem dX0_breakBox_22 : decode cX0_breakBox 22 = .ok (.istore_n 3, 1) := by decide +kernel
theorem dX0_breakBox_23 : decode cX0_breakBox 23 = .ok (.iload_n 3, 1) := by decide +kernel
theorem dX0_breakBox_24 : decode cX0_breakBox 24 = .ok (.aload_n 0, 1) := by decide +kernel
theorem dX0_breakBox_25 : decode cX0_breakBox 25 = .ok (.getfield 43, 3) := by decide +kernel
theorem dX0_breakBox_28 : decode cX0_breakBox 28 = .ok (.if_icmp .ge 27, 3) := by decide +kernel
theorem dX0_breakBox_31 : decode cX0_breakBox 31 = .ok (.aload_n 0, 1) := by decide +kernel
theorem dX0_breakBox_32 : decode cX0_breakBox 32 = .ok (.getfield 11, 3) := by decide +kernel
theorem dX0_breakBox_35 : decode cX0_breakBox 35 = .ok (.iload_n 3, 1) := by decide +kernel
theorem dX0_breakBox_36 : decode cX0_breakBox 36 = .ok (.iaload, 1) := by decide +kernel
theorem dX0_breakBox_37 : decode cX0_breakBox 37 = .ok (.iload_n 1, 1) := by decide +kernel
theorem dX0_breakBox_38 : decode cX0_breakBox 38 = .ok (.if_icmp .ne 11, 3) := by decide +kernel
theorem dX0_breakBox_41 : decode cX0_breakBox 41 = .ok (.aload_n 0, 1) := by decide +kernel
theorem dX0_breakBox_42 : decode cX0_breakBox 42 = .ok (.getfield 11, 3) := by decide +kernel
theorem dX0_breakBox_45 : decode cX0_breakBox 45 = .ok (.iload_n 3, 1) := by decide +kernel
theorem dX0_breakBox_46 : decode cX0_breakBox 46 = .ok (.bipush (-4), 2) := by decide +kernel
theorem dX0_breakBox_48 : decode cX0_breakBox 48 = .ok (.iastore, 1) := by decide +kernel
theorem dX0_breakBox_49 : decode cX0_breakBox 49 = .ok (.iinc 3 1, 3) := by decide +kernel
theorem dX0_breakBox_52 : decode cX0_breakBox 52 = .ok (.goto (-29), 3) := by decide +kernel
theorem dX0_breakBox_55 : decode cX0_breakBox 55 = .ok (.aload_n 0, 1) := by decide +kernel
theorem dX0_breakBox_56 : decode cX0_breakBox 56 = .ok (.getfield 21, 3) := by decide +kernel
theorem dX0_breakBox_59 : decode cX0_breakBox 59 = .ok (.iload_n 1, 1) := by decide +kernel
theorem dX0_breakBox_60 : decode cX0_breakBox 60 = .ok (.iconst 0, 1) := by decide +kernel
theorem dX0_breakBox_61 : decode cX0_breakBox 61 = .ok (.iastore, 1) := by decide +kernel
theorem dX0_breakBox_62 : decode cX0_breakBox 62 = .ok (.aload_n 0, 1) := by decide +kernel
theorem dX0_breakBox_63 : decode cX0_breakBox 63 = .ok (.getfield 24, 3) := by decide +kernel
theorem dX0_breakBox_66 : decode cX0_breakBox 66 = .ok (.iload_n 1, 1) := by decide +kernel
theorem dX0_breakBox_67 : decode cX0_breakBox 67 = .ok (.iconst 0, 1) := by decide +kernel
theorem dX0_breakBox_68 : decode cX0_breakBox 68 = .ok (.bastore, 1) := by decide +kernel
theorem dX0_breakBox_69 : decode cX0_breakBox 69 = .ok (.iload_n 2, 1) := by decide +kernel
theorem dX0_breakBox_70 : decode cX0_breakBox 70 = .ok (.ireturn, 1) := by decide +kernel
theorem dX0_breakPallet_0 : decode cX0_breakPallet 0 = .ok (.aload_n 0, 1) := by decide +kernel
theorem dX0_breakPallet_1 : decode cX0_breakPallet 1 = .ok (.getfield 31, 3) := by decide +kernel
theorem dX0_breakPallet_4 : decode cX0_breakPallet 4 = .ok (.iload_n 1, 1) := by decide +kernel
theorem dX0_breakPallet_5 : decode cX0_breakPallet 5 = .ok (.iaload, 1) := by decide +kernel
theorem dX0_breakPallet_6 : decode cX0_breakPallet 6 = .ok (.istore_n 2, 1) := by decide +kernel
theorem dX0_breakPallet_7 : decode cX0_breakPallet 7 = .ok (.iconst 0, 1) := by decide +kernel
theorem dX0_breakPallet_8 : decode cX0_breakPallet 8 = .ok (.istore_n 3, 1) := by decide +kernel
theorem dX0_breakPallet_9 : decode cX0_breakPallet 9 = .ok (.iload_n 3, 1) := by decide +kernel
theorem dX0_breakPallet_10 : decode cX0_breakPallet 10 = .ok (.bipush 30, 2) := by decide +kernel
theorem dX0_breakPallet_12 : decode cX0_breakPallet 12 = .ok (.if_icmp .ge 27, 3) := by decide +kernel
theorem dX0_breakPallet_15 : decode cX0_breakPallet 15 = .ok (.aload_n 0, 1) := by decide +kernel
theorem dX0_breakPallet_16 : decode cX0_breakPallet 16 = .ok (.getfield 28, 3) := by decide +kernel
theorem dX0_breakPallet_19 : decode cX0_breakPallet 19 = .ok (.iload_n 3, 1) := by decide +kernel
theorem dX0_breakPallet_20 : decode cX0_breakPallet 20 = .ok (.iaload, 1) := by decide +kernel
theorem dX0_breakPallet_21 : decode cX0_breakPallet 21 = .ok (.iload_n 1, 1) := by decide +kernel
theorem dX0_breakPallet_22 : decode cX0_breakPallet 22 = .ok (.if_icmp .ne 11, 3) := by decide +kernel
theorem dX0_breakPallet_25 : decode cX0_breakPallet 25 = .ok (.aload_n 0, 1) := by decide +kernel
theorem dX0_breakPallet_26 : decode cX0_breakPallet 26 = .ok (.getfield 28, 3) := by decide +kernel
theorem dX0_breakPallet_29 : decode cX0_breakPallet 29 = .ok (.iload_n 3, 1) := by decide +kernel
theorem dX0_breakPallet_30 : decode cX0_breakPallet 30 = .ok (.bipush (-4), 2) := by decide +kernel
theorem dX0_breakPallet_32 : decode cX0_breakPallet 32 = .ok (.iastore, 1) := by decide +kernel
theorem dX0_breakPallet_33 : decode cX0_breakPallet 33 = .ok (.iinc 3 1, 3) := by decide +kernel
theorem dX0_breakPallet_36 : decode cX0_breakPallet 36 = .ok (.goto (-27), 3) := by decide +kernel
theorem dX0_breakPallet_39 : decode cX0_breakPallet 39 = .ok (.aload_n 0, 1) := by decide +kernel
theorem dX0_breakPallet_40 : decode cX0_breakPallet 40 = .ok (.getfield 31, 3) := by decide +kernel
theorem dX0_breakPallet_43 : decode cX0_breakPallet 43 = .ok (.iload_n 1, 1) := by decide +kernel
theorem dX0_breakPallet_44 : decode cX0_breakPallet 44 = .ok (.iconst 0, 1) := by decide +kernel
theorem dX0_breakPallet_45 : decode cX0_breakPallet 45 = .ok (.iastore, 1) := by decide +kernel
theorem dX0_breakPallet_46 : decode cX0_breakPallet 46 = .ok (.aload_n 0, 1) := by decide +kernel
theorem dX0_breakPallet_47 : decode cX0_breakPallet 47 = .ok (.getfield 34, 3) := by decide +kernel
theorem dX0_breakPallet_50 : decode cX0_breakPallet 50 = .ok (.iload_n 1, 1) := by decide +kernel
theorem dX0_breakPallet_51 : decode cX0_breakPallet 51 = .ok (.iconst 0, 1) := by decide +kernel
theorem dX0_breakPallet_52 : decode cX0_breakPallet 52 = .ok (.bastore, 1) := by decide +kernel
theorem dX0_breakPallet_53 : decode cX0_breakPallet 53 = .ok (.iload_n 2, 1) := by decide +kernel
theorem dX0_breakPallet_54 : decode cX0_breakPallet 54 = .ok (.ireturn, 1) := by decide +kernel
theorem dX0_fullestCase_0 : decode cX0_fullestCase 0 = .ok (.iconst 0, 1) := by decide +kernel
theorem dX0_fullestCase_1 : decode cX0_fullestCase 1 = .ok (.istore_n 1, 1) := by decide +kernel
theorem dX0_fullestCase_2 : decode cX0_fullestCase 2 = .ok (.iconst 0, 1) := by decide +kernel
theorem dX0_fullestCase_3 : decode cX0_fullestCase 3 = .ok (.istore_n 2, 1) := by decide +kernel
theorem dX0_fullestCase_4 : decode cX0_fullestCase 4 = .ok (.iload_n 2, 1) := by decide +kernel
theorem dX0_fullestCase_5 : decode cX0_fullestCase 5 = .ok (.bipush 30, 2) := by decide +kernel
theorem dX0_fullestCase_7 : decode cX0_fullestCase 7 = .ok (.if_icmp .ge 20, 3) := by decide +kernel
theorem dX0_fullestCase_10 : decode cX0_fullestCase 10 = .ok (.iload_n 1, 1) := by decide +kernel
theorem dX0_fullestCase_11 : decode cX0_fullestCase 11 = .ok (.aload_n 0, 1) := by decide +kernel
theorem dX0_fullestCase_12 : decode cX0_fullestCase 12 = .ok (.getfield 21, 3) := by decide +kernel
theorem dX0_fullestCase_15 : decode cX0_fullestCase 15 = .ok (.iload_n 2, 1) := by decide +kernel
theorem dX0_fullestCase_16 : decode cX0_fullestCase 16 = .ok (.iaload, 1) := by decide +kernel
theorem dX0_fullestCase_17 : decode cX0_fullestCase 17 = .ok (.invokestatic 66, 3) := by decide +kernel
theorem dX0_fullestCase_20 : decode cX0_fullestCase 20 = .ok (.istore_n 1, 1) := by decide +kernel
theorem dX0_fullestCase_21 : decode cX0_fullestCase 21 = .ok (.iinc 2 1, 3) := by decide +kernel
theorem dX0_fullestCase_24 : decode cX0_fullestCase 24 = .ok (.goto (-20), 3) := by decide +kernel
theorem dX0_fullestCase_27 : decode cX0_fullestCase 27 = .ok (.iload_n 1, 1) := by decide +kernel
theorem dX0_fullestCase_28 : decode cX0_fullestCase 28 = .ok (.ireturn, 1) := by decide +kernel
theorem dX0_fullestPallet_0 : decode cX0_fullestPallet 0 = .ok (.iconst 0, 1) := by decide +kernel
theorem dX0_fullestPallet_1 : decode cX0_fullestPallet 1 = .ok (.istore_n 1, 1) := by decide +kernel
theorem dX0_fullestPallet_2 : decode cX0_fullestPallet 2 = .ok (.iconst 0, 1) := by decide +kernel
theorem dX0_fullestPallet_3 : decode cX0_fullestPallet 3 = .ok (.istore_n 2, 1) := by decide +kernel
theorem dX0_fullestPallet_4 : decode cX0_fullestPallet 4 = .ok (.iload_n 2, 1) := by decide +kernel
theorem dX0_fullestPallet_5 : decode cX0_fullestPallet 5 = .ok (.bipush 6, 2) := by decide +kernel
theorem dX0_fullestPallet_7 : decode cX0_fullestPallet 7 = .ok (.if_icmp .ge 20, 3) := by decide +kernel
theorem dX0_fullestPallet_10 : decode cX0_fullestPallet 10 = .ok (.iload_n 1, 1) := by decide +kernel
theorem dX0_fullestPallet_11 : decode cX0_fullestPallet 11 = .ok (.aload_n 0, 1) := by decide +kernel
theorem dX0_fullestPallet_12 : decode cX0_fullestPallet 12 = .ok (.getfield 31, 3) := by decide +kernel
theorem dX0_fullestPallet_15 : decode cX0_fullestPallet 15 = .ok (.iload_n 2, 1) := by decide +kernel
theorem dX0_fullestPallet_16 : decode cX0_fullestPallet 16 = .ok (.iaload, 1) := by decide +kernel
theorem dX0_fullestPallet_17 : decode cX0_fullestPallet 17 = .ok (.invokestatic 66, 3) := by decide +kernel
theorem dX0_fullestPallet_20 : decode cX0_fullestPallet 20 = .ok (.istore_n 1, 1) := by decide +kernel
theorem dX0_fullestPallet_21 : decode cX0_fullestPallet 21 = .ok (.iinc 2 1, 3) := by decide +kernel
theorem dX0_fullestPallet_24 : decode cX0_fullestPallet 24 = .ok (.goto (-20), 3) := by decide +kernel
theorem dX0_fullestPallet_27 : decode cX0_fullestPallet 27 = .ok (.iload_n 1, 1) := by decide +kernel
theorem dX0_fullestPallet_28 : decode cX0_fullestPallet 28 = .ok (.ireturn, 1) := by decide +kernel
set_option maxRecDepth 20000 in
theorem ggX0_palletOfCode_X6_isBox : GoodIn wsX0_palletOfCode wsX6_isBox := goodIn_r _ [5, 6, 7, 4, 8] (by decide +kernel) (by decide +kernel)
set_option maxRecDepth 20000 in
theorem gX0_palletOfCode_X6_isBox_n71 : GoodIn wsX0_palletOfCode (wsX6_isBox) := ggX0_palletOfCode_X6_isBox
theorem dX0_palletOfCode_0 : decode cX0_palletOfCode 0 = .ok (.aload_n 0, 1) := by decide +kernel
theorem dX0_palletOfCode_1 : decode cX0_palletOfCode 1 = .ok (.getfield 11, 3) := by decide +kernel
theorem dX0_palletOfCode_4 : decode cX0_palletOfCode 4 = .ok (.iload_n 1, 1) := by decide +kernel
theorem dX0_palletOfCode_5 : decode cX0_palletOfCode 5 = .ok (.iaload, 1) := by decide +kernel
theorem dX0_palletOfCode_6 : decode cX0_palletOfCode 6 = .ok (.istore_n 2, 1) := by decide +kernel
theorem dX0_palletOfCode_7 : decode cX0_palletOfCode 7 = .ok (.iload_n 2, 1) := by decide +kernel
theorem dX0_palletOfCode_8 : decode cX0_palletOfCode 8 = .ok (.invokestatic 71, 3) := by decide +kernel
theorem dX0_palletOfCode_11 : decode cX0_palletOfCode 11 = .ok (.ifCond .eq 12, 3) := by decide +kernel
theorem dX0_palletOfCode_14 : decode cX0_palletOfCode 14 = .ok (.aload_n 0, 1) := by decide +kernel
theorem dX0_palletOfCode_15 : decode cX0_palletOfCode 15 = .ok (.getfield 28, 3) := by decide +kernel
theorem dX0_palletOfCode_18 : decode cX0_palletOfCode 18 = .ok (.iload_n 2, 1) := by decide +kernel
theorem dX0_palletOfCode_19 : decode cX0_palletOfCode 19 = .ok (.iaload, 1) := by decide +kernel
theorem dX0_palletOfCode_20 : decode cX0_palletOfCode 20 = .ok (.goto 5, 3) := by decide +kernel
theorem dX0_palletOfCode_23 : decode cX0_palletOfCode 23 = .ok (.bipush (-4), 2) := by decide +kernel
theorem dX0_palletOfCode_25 : decode cX0_palletOfCode 25 = .ok (.ireturn, 1) := by decide +kernel
theorem dX0_leastIn_0 : decode cX0_leastIn 0 = .ok (.iconst 0, 1) := by decide +kernel
theorem dX0_leastIn_1 : decode cX0_leastIn 1 = .ok (.istore_n 2, 1) := by decide +kernel
theorem dX0_leastIn_2 : decode cX0_leastIn 2 = .ok (.iload_n 2, 1) := by decide +kernel
theorem dX0_leastIn_3 : decode cX0_leastIn 3 = .ok (.aload_n 0, 1) := by decide +kernel
theorem dX0_leastIn_4 : decode cX0_leastIn 4 = .ok (.getfield 43, 3) := by decide +kernel
theorem dX0_leastIn_7 : decode cX0_leastIn 7 = .ok (.if_icmp .ge 21, 3) := by decide +kernel
theorem dX0_leastIn_10 : decode cX0_leastIn 10 = .ok (.aload_n 0, 1) := by decide +kernel
theorem dX0_leastIn_11 : decode cX0_leastIn 11 = .ok (.getfield 11, 3) := by decide +kernel
theorem dX0_leastIn_14 : decode cX0_leastIn 14 = .ok (.iload_n 2, 1) := by decide +kernel
theorem dX0_leastIn_15 : decode cX0_leastIn 15 = .ok (.iaload, 1) := by decide +kernel
theorem dX0_leastIn_16 : decode cX0_leastIn 16 = .ok (.iload_n 1, 1) := by decide +kernel
theorem dX0_leastIn_17 : decode cX0_leastIn 17 = .ok (.if_icmp .ne 5, 3) := by decide +kernel
theorem dX0_leastIn_20 : decode cX0_leastIn 20 = .ok (.iload_n 2, 1) := by decide +kernel
theorem dX0_leastIn_21 : decode cX0_leastIn 21 = .ok (.ireturn, 1) := by decide +kernel
theorem dX0_leastIn_22 : decode cX0_leastIn 22 = .ok (.iinc 2 1, 3) := by decide +kernel
theorem dX0_leastIn_25 : decode cX0_leastIn 25 = .ok (.goto (-23), 3) := by decide +kernel
theorem dX0_leastIn_28 : decode cX0_leastIn 28 = .ok (.bipush (-4), 2) := by decide +kernel
theorem dX0_leastIn_30 : decode cX0_leastIn 30 = .ok (.ireturn, 1) := by decide +kernel
theorem dX0_greatestIn_0 : decode cX0_greatestIn 0 = .ok (.aload_n 0, 1) := by decide +kernel
theorem dX0_greatestIn_1 : decode cX0_greatestIn 1 = .ok (.getfield 43, 3) := by decide +kernel
theorem dX0_greatestIn_4 : decode cX0_greatestIn 4 = .ok (.iconst 1, 1) := by decide +kernel
theorem dX0_greatestIn_5 : decode cX0_greatestIn 5 = .ok (.isub, 1) := by decide +kernel
theorem dX0_greatestIn_6 : decode cX0_greatestIn 6 = .ok (.istore_n 2, 1) := by decide +kernel
theorem dX0_greatestIn_7 : decode cX0_greatestIn 7 = .ok (.iload_n 2, 1) := by decide +kernel
theorem dX0_greatestIn_8 : decode cX0_greatestIn 8 = .ok (.ifCond .lt 21, 3) := by decide +kernel
theorem dX0_greatestIn_11 : decode cX0_greatestIn 11 = .ok (.aload_n 0, 1) := by decide +kernel
theorem dX0_greatestIn_12 : decode cX0_greatestIn 12 = .ok (.getfield 11, 3) := by decide +kernel
theorem dX0_greatestIn_15 : decode cX0_greatestIn 15 = .ok (.iload_n 2, 1) := by decide +kernel
theorem dX0_greatestIn_16 : decode cX0_greatestIn 16 = .ok (.iaload, 1) := by decide +kernel
theorem dX0_greatestIn_17 : decode cX0_greatestIn 17 = .ok (.iload_n 1, 1) := by decide +kernel
theorem dX0_greatestIn_18 : decode cX0_greatestIn 18 = .ok (.if_icmp .ne 5, 3) := by decide +kernel
theorem dX0_greatestIn_21 : decode cX0_greatestIn 21 = .ok (.iload_n 2, 1) := by decide +kernel
theorem dX0_greatestIn_22 : decode cX0_greatestIn 22 = .ok (.ireturn, 1) := by decide +kernel
theorem dX0_greatestIn_23 : decode cX0_greatestIn 23 = .ok (.iinc 2 (-1), 3) := by decide +kernel
theorem dX0_greatestIn_26 : decode cX0_greatestIn 26 = .ok (.goto (-19), 3) := by decide +kernel
theorem dX0_greatestIn_29 : decode cX0_greatestIn 29 = .ok (.bipush (-4), 2) := by decide +kernel
theorem dX0_greatestIn_31 : decode cX0_greatestIn 31 = .ok (.ireturn, 1) := by decide +kernel
set_option maxRecDepth 20000 in
theorem ggX0_boxesWith_X6_isBox : GoodIn wsX0_boxesWith wsX6_isBox := goodIn_r _ [6, 7, 8, 5, 9] (by decide +kernel) (by decide +kernel)
set_option maxRecDepth 20000 in
theorem gX0_boxesWith_X6_isBox_n71 : GoodIn wsX0_boxesWith (wsX6_isBox) := ggX0_boxesWith_X6_isBox
theorem dX0_boxesWith_0 : decode cX0_boxesWith 0 = .ok (.iconst 0, 1) := by decide +kernel
theorem dX0_boxesWith_1 : decode cX0_boxesWith 1 = .ok (.istore_n 2, 1) := by decide +kernel
theorem dX0_boxesWith_2 : decode cX0_boxesWith 2 = .ok (.iconst 0, 1) := by decide +kernel
theorem dX0_boxesWith_3 : decode cX0_boxesWith 3 = .ok (.istore_n 3, 1) := by decide +kernel
theorem dX0_boxesWith_4 : decode cX0_boxesWith 4 = .ok (.iload_n 3, 1) := by decide +kernel
theorem dX0_boxesWith_5 : decode cX0_boxesWith 5 = .ok (.aload_n 0, 1) := by decide +kernel
theorem dX0_boxesWith_6 : decode cX0_boxesWith 6 = .ok (.getfield 43, 3) := by decide +kernel
theorem dX0_boxesWith_9 : decode cX0_boxesWith 9 = .ok (.if_icmp .ge 42, 3) := by decide +kernel
theorem dX0_boxesWith_12 : decode cX0_boxesWith 12 = .ok (.aload_n 0, 1) := by decide +kernel
theorem dX0_boxesWith_13 : decode cX0_boxesWith 13 = .ok (.getfield 15, 3) := by decide +kernel
theorem dX0_boxesWith_16 : decode cX0_boxesWith 16 = .ok (.iload_n 3, 1) := by decide +kernel
theorem dX0_boxesWith_17 : decode cX0_boxesWith 17 = .ok (.iaload, 1) := by decide +kernel
theorem dX0_boxesWith_18 : decode cX0_boxesWith 18 = .ok (.iload_n 1, 1) := by decide +kernel
theorem dX0_boxesWith_19 : decode cX0_boxesWith 19 = .ok (.if_icmp .ne 26, 3) := by decide +kernel
theorem dX0_boxesWith_22 : decode cX0_boxesWith 22 = .ok (.aload_n 0, 1) := by decide +kernel
theorem dX0_boxesWith_23 : decode cX0_boxesWith 23 = .ok (.getfield 11, 3) := by decide +kernel
theorem dX0_boxesWith_26 : decode cX0_boxesWith 26 = .ok (.iload_n 3, 1) := by decide +kernel
theorem dX0_boxesWith_27 : decode cX0_boxesWith 27 = .ok (.iaload, 1) := by decide +kernel
theorem dX0_boxesWith_28 : decode cX0_boxesWith 28 = .ok (.invokestatic 71, 3) := by decide +kernel
theorem dX0_boxesWith_31 : decode cX0_boxesWith 31 = .ok (.ifCond .eq 14, 3) := by decide +kernel
theorem dX0_boxesWith_34 : decode cX0_boxesWith 34 = .ok (.iload_n 2, 1) := by decide +kernel
theorem dX0_boxesWith_35 : decode cX0_boxesWith 35 = .ok (.iconst 1, 1) := by decide +kernel
theorem dX0_boxesWith_36 : decode cX0_boxesWith 36 = .ok (.aload_n 0, 1) := by decide +kernel
theorem dX0_boxesWith_37 : decode cX0_boxesWith 37 = .ok (.getfield 11, 3) := by decide +kernel
theorem dX0_boxesWith_40 : decode cX0_boxesWith 40 = .ok (.iload_n 3, 1) := by decide +kernel
theorem dX0_boxesWith_41 : decode cX0_boxesWith 41 = .ok (.iaload, 1) := by decide +kernel
theorem dX0_boxesWith_42 : decode cX0_boxesWith 42 = .ok (.ishl, 1) := by decide +kernel
theorem dX0_boxesWith_43 : decode cX0_boxesWith 43 = .ok (.ior, 1) := by decide +kernel
theorem dX0_boxesWith_44 : decode cX0_boxesWith 44 = .ok (.istore_n 2, 1) := by decide +kernel
theorem dX0_boxesWith_45 : decode cX0_boxesWith 45 = .ok (.iinc 3 1, 3) := by decide +kernel
theorem dX0_boxesWith_48 : decode cX0_boxesWith 48 = .ok (.goto (-44), 3) := by decide +kernel
theorem dX0_boxesWith_51 : decode cX0_boxesWith 51 = .ok (.iload_n 2, 1) := by decide +kernel
theorem dX0_boxesWith_52 : decode cX0_boxesWith 52 = .ok (.ireturn, 1) := by decide +kernel
set_option maxRecDepth 20000 in
theorem ggX0_palletsWith_X0_palletOfCode : GoodIn wsX0_palletsWith wsX0_palletOfCode := goodIn_r _ [7, 8, 9, 10, 11, 12, 13, 14, 15, 18, 19, 20, 21, 22, 23, 24, 25, 26] (by decide +kernel) (by decide +kernel)
set_option maxRecDepth 20000 in
theorem gX0_palletsWith_X0_palletOfCode : GoodIn wsX0_palletsWith (wsV RX0 74 RX0 yX0_palletOfCode wsX0_palletOfCode) := goodIn_app (goodIn_of _ (by decide +kernel)) ggX0_palletsWith_X0_palletOfCode
set_option maxRecDepth 20000 in
theorem ggX0_palletsWith_X6_isPallet : GoodIn wsX0_palletsWith wsX6_isPallet := goodIn_r _ [17, 13, 14, 11, 15] (by decide +kernel) (by decide +kernel)
set_option maxRecDepth 20000 in
theorem gX0_palletsWith_X6_isPallet_n77 : GoodIn wsX0_palletsWith (wsX6_isPallet) := ggX0_palletsWith_X6_isPallet
theorem dX0_palletsWith_0 : decode cX0_palletsWith 0 = .ok (.iconst 0, 1) := by decide +kernel
theorem dX0_palletsWith_1 : decode cX0_palletsWith 1 = .ok (.istore_n 2, 1) := by decide +kernel
theorem dX0_palletsWith_2 : decode cX0_palletsWith 2 = .ok (.iconst 0, 1) := by decide +kernel
theorem dX0_palletsWith_3 : decode cX0_palletsWith 3 = .ok (.istore_n 3, 1) := by decide +kernel
theorem dX0_palletsWith_4 : decode cX0_palletsWith 4 = .ok (.iload_n 3, 1) := by decide +kernel
theorem dX0_palletsWith_5 : decode cX0_palletsWith 5 = .ok (.aload_n 0, 1) := by decide +kernel
theorem dX0_palletsWith_6 : decode cX0_palletsWith 6 = .ok (.getfield 43, 3) := by decide +kernel
theorem dX0_palletsWith_9 : decode cX0_palletsWith 9 = .ok (.if_icmp .ge 41, 3) := by decide +kernel
theorem dX0_palletsWith_12 : decode cX0_palletsWith 12 = .ok (.aload_n 0, 1) := by decide +kernel
theorem dX0_palletsWith_13 : decode cX0_palletsWith 13 = .ok (.iload_n 3, 1) := by decide +kernel
theorem dX0_palletsWith_14 : decode cX0_palletsWith 14 = .ok (.invokevirtual 74, 3) := by decide +kernel
theorem dX0_palletsWith_17 : decode cX0_palletsWith 17 = .ok (.istore 4, 2) := by decide +kernel
theorem dX0_palletsWith_19 : decode cX0_palletsWith 19 = .ok (.aload_n 0, 1) := by decide +kernel
theorem dX0_palletsWith_20 : decode cX0_palletsWith 20 = .ok (.getfield 15, 3) := by decide +kernel
theorem dX0_palletsWith_23 : decode cX0_palletsWith 23 = .ok (.iload_n 3, 1) := by decide +kernel
theorem dX0_palletsWith_24 : decode cX0_palletsWith 24 = .ok (.iaload, 1) := by decide +kernel
theorem dX0_palletsWith_25 : decode cX0_palletsWith 25 = .ok (.iload_n 1, 1) := by decide +kernel
theorem dX0_palletsWith_26 : decode cX0_palletsWith 26 = .ok (.if_icmp .ne 18, 3) := by decide +kernel
theorem dX0_palletsWith_29 : decode cX0_palletsWith 29 = .ok (.iload 4, 2) := by decide +kernel
theorem dX0_palletsWith_31 : decode cX0_palletsWith 31 = .ok (.invokestatic 77, 3) := by decide +kernel
theorem dX0_palletsWith_34 : decode cX0_palletsWith 34 = .ok (.ifCond .eq 10, 3) := by decide +kernel
theorem dX0_palletsWith_37 : decode cX0_palletsWith 37 = .ok (.iload_n 2, 1) := by decide +kernel
theorem dX0_palletsWith_38 : decode cX0_palletsWith 38 = .ok (.iconst 1, 1) := by decide +kernel
theorem dX0_palletsWith_39 : decode cX0_palletsWith 39 = .ok (.iload 4, 2) := by decide +kernel
theorem dX0_palletsWith_41 : decode cX0_palletsWith 41 = .ok (.ishl, 1) := by decide +kernel
theorem dX0_palletsWith_42 : decode cX0_palletsWith 42 = .ok (.ior, 1) := by decide +kernel
theorem dX0_palletsWith_43 : decode cX0_palletsWith 43 = .ok (.istore_n 2, 1) := by decide +kernel
theorem dX0_palletsWith_44 : decode cX0_palletsWith 44 = .ok (.iinc 3 1, 3) := by decide +kernel
theorem dX0_palletsWith_47 : decode cX0_palletsWith 47 = .ok (.goto (-43), 3) := by decide +kernel
theorem dX0_palletsWith_50 : decode cX0_palletsWith 50 = .ok (.iload_n 2, 1) := by decide +kernel
theorem dX0_palletsWith_51 : decode cX0_palletsWith 51 = .ok (.ireturn, 1) := by decide +kernel
theorem dX0_looseOf_0 : decode cX0_looseOf 0 = .ok (.iconst 0, 1) := by decide +kernel
theorem dX0_looseOf_1 : decode cX0_looseOf 1 = .ok (.istore_n 2, 1) := by decide +kernel
theorem dX0_looseOf_2 : decode cX0_looseOf 2 = .ok (.iconst 0, 1) := by decide +kernel
theorem dX0_looseOf_3 : decode cX0_looseOf 3 = .ok (.istore_n 3, 1) := by decide +kernel
theorem dX0_looseOf_4 : decode cX0_looseOf 4 = .ok (.iload_n 3, 1) := by decide +kernel
theorem dX0_looseOf_5 : decode cX0_looseOf 5 = .ok (.aload_n 0, 1) := by decide +kernel
theorem dX0_looseOf_6 : decode cX0_looseOf 6 = .ok (.getfield 43, 3) := by decide +kernel
theorem dX0_looseOf_9 : decode cX0_looseOf 9 = .ok (.if_icmp .ge 33, 3) := by decide +kernel
theorem dX0_looseOf_12 : decode cX0_looseOf 12 = .ok (.aload_n 0, 1) := by decide +kernel
theorem dX0_looseOf_13 : decode cX0_looseOf 13 = .ok (.getfield 15, 3) := by decide +kernel
theorem dX0_looseOf_16 : decode cX0_looseOf 16 = .ok (.iload_n 3, 1) := by decide +kernel
theorem dX0_looseOf_17 : decode cX0_looseOf 17 = .ok (.iaload, 1) := by decide +kernel
theorem dX0_looseOf_18 : decode cX0_looseOf 18 = .ok (.iload_n 1, 1) := by decide +kernel
theorem dX0_looseOf_19 : decode cX0_looseOf 19 = .ok (.if_icmp .ne 17, 3) := by decide +kernel
theorem dX0_looseOf_22 : decode cX0_looseOf 22 = .ok (.aload_n 0, 1) := by decide +kernel
theorem dX0_looseOf_23 : decode cX0_looseOf 23 = .ok (.getfield 11, 3) := by decide +kernel
theorem dX0_looseOf_26 : decode cX0_looseOf 26 = .ok (.iload_n 3, 1) := by decide +kernel
theorem dX0_looseOf_27 : decode cX0_looseOf 27 = .ok (.iaload, 1) := by decide +kernel
theorem dX0_looseOf_28 : decode cX0_looseOf 28 = .ok (.bipush (-4), 2) := by decide +kernel
theorem dX0_looseOf_30 : decode cX0_looseOf 30 = .ok (.if_icmp .ne 6, 3) := by decide +kernel
theorem dX0_looseOf_33 : decode cX0_looseOf 33 = .ok (.iinc 2 1, 3) := by decide +kernel
theorem dX0_looseOf_36 : decode cX0_looseOf 36 = .ok (.iinc 3 1, 3) := by decide +kernel
theorem dX0_looseOf_39 : decode cX0_looseOf 39 = .ok (.goto (-35), 3) := by decide +kernel
theorem dX0_looseOf_42 : decode cX0_looseOf 42 = .ok (.iload_n 2, 1) := by decide +kernel
theorem dX0_looseOf_43 : decode cX0_looseOf 43 = .ok (.ireturn, 1) := by decide +kernel
theorem dX0_putWeight_0 : decode cX0_putWeight 0 = .ok (.aload_n 0, 1) := by decide +kernel
theorem dX0_putWeight_1 : decode cX0_putWeight 1 = .ok (.getfield 18, 3) := by decide +kernel
theorem dX0_putWeight_4 : decode cX0_putWeight 4 = .ok (.iload_n 1, 1) := by decide +kernel
theorem dX0_putWeight_5 : decode cX0_putWeight 5 = .ok (.iaload, 1) := by decide +kernel
theorem dX0_putWeight_6 : decode cX0_putWeight 6 = .ok (.istore_n 3, 1) := by decide +kernel
theorem dX0_putWeight_7 : decode cX0_putWeight 7 = .ok (.aload_n 0, 1) := by decide +kernel
theorem dX0_putWeight_8 : decode cX0_putWeight 8 = .ok (.getfield 18, 3) := by decide +kernel
theorem dX0_putWeight_11 : decode cX0_putWeight 11 = .ok (.iload_n 1, 1) := by decide +kernel
theorem dX0_putWeight_12 : decode cX0_putWeight 12 = .ok (.iload_n 2, 1) := by decide +kernel
theorem dX0_putWeight_13 : decode cX0_putWeight 13 = .ok (.iastore, 1) := by decide +kernel
theorem dX0_putWeight_14 : decode cX0_putWeight 14 = .ok (.iload_n 3, 1) := by decide +kernel
theorem dX0_putWeight_15 : decode cX0_putWeight 15 = .ok (.ireturn, 1) := by decide +kernel
theorem dX0_givenAway_0 : decode cX0_givenAway 0 = .ok (.iconst 0, 1) := by decide +kernel
theorem dX0_givenAway_1 : decode cX0_givenAway 1 = .ok (.istore_n 2, 1) := by decide +kernel
theorem dX0_givenAway_2 : decode cX0_givenAway 2 = .ok (.iconst 0, 1) := by decide +kernel
theorem dX0_givenAway_3 : decode cX0_givenAway 3 = .ok (.istore_n 3, 1) := by decide +kernel
theorem dX0_givenAway_4 : decode cX0_givenAway 4 = .ok (.iload_n 3, 1) := by decide +kernel
theorem dX0_givenAway_5 : decode cX0_givenAway 5 = .ok (.aload_n 0, 1) := by decide +kernel
theorem dX0_givenAway_6 : decode cX0_givenAway 6 = .ok (.getfield 43, 3) := by decide +kernel
theorem dX0_givenAway_9 : decode cX0_givenAway 9 = .ok (.if_icmp .ge 24, 3) := by decide +kernel
theorem dX0_givenAway_12 : decode cX0_givenAway 12 = .ok (.iload_n 2, 1) := by decide +kernel
theorem dX0_givenAway_13 : decode cX0_givenAway 13 = .ok (.aload_n 0, 1) := by decide +kernel
theorem dX0_givenAway_14 : decode cX0_givenAway 14 = .ok (.getfield 18, 3) := by decide +kernel
theorem dX0_givenAway_17 : decode cX0_givenAway 17 = .ok (.iload_n 3, 1) := by decide +kernel
theorem dX0_givenAway_18 : decode cX0_givenAway 18 = .ok (.iaload, 1) := by decide +kernel
theorem dX0_givenAway_19 : decode cX0_givenAway 19 = .ok (.iload_n 1, 1) := by decide +kernel
theorem dX0_givenAway_20 : decode cX0_givenAway 20 = .ok (.isub, 1) := by decide +kernel
theorem dX0_givenAway_21 : decode cX0_givenAway 21 = .ok (.iconst 0, 1) := by decide +kernel
theorem dX0_givenAway_22 : decode cX0_givenAway 22 = .ok (.invokestatic 66, 3) := by decide +kernel
theorem dX0_givenAway_25 : decode cX0_givenAway 25 = .ok (.iadd, 1) := by decide +kernel
theorem dX0_givenAway_26 : decode cX0_givenAway 26 = .ok (.istore_n 2, 1) := by decide +kernel
theorem dX0_givenAway_27 : decode cX0_givenAway 27 = .ok (.iinc 3 1, 3) := by decide +kernel
theorem dX0_givenAway_30 : decode cX0_givenAway 30 = .ok (.goto (-26), 3) := by decide +kernel
theorem dX0_givenAway_33 : decode cX0_givenAway 33 = .ok (.iload_n 2, 1) := by decide +kernel
theorem dX0_givenAway_34 : decode cX0_givenAway 34 = .ok (.ireturn, 1) := by decide +kernel
theorem dX0_lighterThan_0 : decode cX0_lighterThan 0 = .ok (.iconst 0, 1) := by decide +kernel
theorem dX0_lighterThan_1 : decode cX0_lighterThan 1 = .ok (.istore_n 2, 1) := by decide +kernel
theorem dX0_lighterThan_2 : decode cX0_lighterThan 2 = .ok (.iconst 0, 1) := by decide +kernel
theorem dX0_lighterThan_3 : decode cX0_lighterThan 3 = .ok (.istore_n 3, 1) := by decide +kernel
theorem dX0_lighterThan_4 : decode cX0_lighterThan 4 = .ok (.iload_n 3, 1) := by decide +kernel
theorem dX0_lighterThan_5 : decode cX0_lighterThan 5 = .ok (.aload_n 0, 1) := by decide +kernel
theorem dX0_lighterThan_6 : decode cX0_lighterThan 6 = .ok (.getfield 43, 3) := by decide +kernel
theorem dX0_lighterThan_9 : decode cX0_lighterThan 9 = .ok (.if_icmp .ge 33, 3) := by decide +kernel
theorem dX0_lighterThan_12 : decode cX0_lighterThan 12 = .ok (.aload_n 0, 1) := by decide +kernel
theorem dX0_lighterThan_13 : decode cX0_lighterThan 13 = .ok (.getfield 18, 3) := by decide +kernel
theorem dX0_lighterThan_16 : decode cX0_lighterThan 16 = .ok (.iload_n 3, 1) := by decide +kernel
theorem dX0_lighterThan_17 : decode cX0_lighterThan 17 = .ok (.iaload, 1) := by decide +kernel
theorem dX0_lighterThan_18 : decode cX0_lighterThan 18 = .ok (.bipush (-4), 2) := by decide +kernel
theorem dX0_lighterThan_20 : decode cX0_lighterThan 20 = .ok (.if_icmp .eq 16, 3) := by decide +kernel
theorem dX0_lighterThan_23 : decode cX0_lighterThan 23 = .ok (.aload_n 0, 1) := by decide +kernel
theorem dX0_lighterThan_24 : decode cX0_lighterThan 24 = .ok (.getfield 18, 3) := by decide +kernel
theorem dX0_lighterThan_27 : decode cX0_lighterThan 27 = .ok (.iload_n 3, 1) := by decide +kernel
theorem dX0_lighterThan_28 : decode cX0_lighterThan 28 = .ok (.iaload, 1) := by decide +kernel
theorem dX0_lighterThan_29 : decode cX0_lighterThan 29 = .ok (.iload_n 1, 1) := by decide +kernel
theorem dX0_lighterThan_30 : decode cX0_lighterThan 30 = .ok (.if_icmp .ge 6, 3) := by decide +kernel
theorem dX0_lighterThan_33 : decode cX0_lighterThan 33 = .ok (.iinc 2 1, 3) := by decide +kernel
theorem dX0_lighterThan_36 : decode cX0_lighterThan 36 = .ok (.iinc 3 1, 3) := by decide +kernel
theorem dX0_lighterThan_39 : decode cX0_lighterThan 39 = .ok (.goto (-35), 3) := by decide +kernel
theorem dX0_lighterThan_42 : decode cX0_lighterThan 42 = .ok (.iload_n 2, 1) := by decide +kernel
theorem dX0_lighterThan_43 : decode cX0_lighterThan 43 = .ok (.ireturn, 1) := by decide +kernel
theorem dX0_weighed_0 : decode cX0_weighed 0 = .ok (.iconst 0, 1) := by decide +kernel
theorem dX0_weighed_1 : decode cX0_weighed 1 = .ok (.istore_n 1, 1) := by decide +kernel
theorem dX0_weighed_2 : decode cX0_weighed 2 = .ok (.iconst 0, 1) := by decide +kernel
theorem dX0_weighed_3 : decode cX0_weighed 3 = .ok (.istore_n 2, 1) := by decide +kernel
theorem dX0_weighed_4 : decode cX0_weighed 4 = .ok (.iload_n 2, 1) := by decide +kernel
theorem dX0_weighed_5 : decode cX0_weighed 5 = .ok (.aload_n 0, 1) := by decide +kernel
theorem dX0_weighed_6 : decode cX0_weighed 6 = .ok (.getfield 43, 3) := by decide +kernel
theorem dX0_weighed_9 : decode cX0_weighed 9 = .ok (.if_icmp .ge 23, 3) := by decide +kernel
theorem dX0_weighed_12 : decode cX0_weighed 12 = .ok (.aload_n 0, 1) := by decide +kernel
theorem dX0_weighed_13 : decode cX0_weighed 13 = .ok (.getfield 18, 3) := by decide +kernel
theorem dX0_weighed_16 : decode cX0_weighed 16 = .ok (.iload_n 2, 1) := by decide +kernel
theorem dX0_weighed_17 : decode cX0_weighed 17 = .ok (.iaload, 1) := by decide +kernel
theorem dX0_weighed_18 : decode cX0_weighed 18 = .ok (.bipush (-4), 2) := by decide +kernel
theorem dX0_weighed_20 : decode cX0_weighed 20 = .ok (.if_icmp .eq 6, 3) := by decide +kernel
theorem dX0_weighed_23 : decode cX0_weighed 23 = .ok (.iinc 1 1, 3) := by decide +kernel
theorem dX0_weighed_26 : decode cX0_weighed 26 = .ok (.iinc 2 1, 3) := by decide +kernel
theorem dX0_weighed_29 : decode cX0_weighed 29 = .ok (.goto (-25), 3) := by decide +kernel
theorem dX0_weighed_32 : decode cX0_weighed 32 = .ok (.iload_n 1, 1) := by decide +kernel
theorem dX0_weighed_33 : decode cX0_weighed 33 = .ok (.ireturn, 1) := by decide +kernel
set_option maxRecDepth 20000 in
theorem ggX1_init_X2_init : GoodIn wsX1_init wsX2_init := goodIn_r _ [16, 17, 2, 3, 10, 18, 19, 20, 57, 58, 59, 60] (by decide +kernel) (by decide +kernel)
set_option maxRecDepth 20000 in
theorem gX1_init_X2_init_n17 : GoodIn wsX1_init (wsX2_init) := ggX1_init_X2_init
set_option maxRecDepth 20000 in
theorem ggX1_init_X3_init : GoodIn wsX1_init wsX3_init := goodIn_r _ [23, 24, 2, 3, 10, 25, 26, 27, 28, 29, 30, 13, 31, 32, 33, 34, 35, 36, 37, 38, 39, 40, 41, 42, 43, 44, 45, 46, 47, 61, 62, 63, 64, 65, 66, 67, 68, 69, 70, 71, 72, 73, 74] (by decide +kernel) (by decide +kernel)
set_option maxRecDepth 20000 in
theorem gX1_init_X3_init : GoodIn wsX1_init (wsX3_init) := ggX1_init_X3_init
theorem dX1_init_0 : decode cX1_init 0 = .ok (.aload_n 0, 1) := by decide +kernel
theorem dX1_init_1 : decode cX1_init 1 = .ok (.invokespecial 1, 3) := by decide +kernel
theorem dX1_init_4 : decode cX1_init 4 = .ok (.aload_n 0, 1) := by decide +kernel
theorem dX1_init_5 : decode cX1_init 5 = .ok (.bipush 6, 2) := by decide +kernel
theorem dX1_init_7 : decode cX1_init 7 = .ok (.anewarray 9, 3) := by decide +kernel
theorem dX1_init_10 : decode cX1_init 10 = .ok (.putfield 11, 3) := by decide +kernel
theorem dX1_init_13 : decode cX1_init 13 = .ok (.aload_n 0, 1) := by decide +kernel
theorem dX1_init_14 : decode cX1_init 14 = .ok (.new 15, 3) := by decide +kernel
theorem dX1_init_17 : decode cX1_init 17 = .ok (.dup, 1) := by decide +kernel
theorem dX1_init_18 : decode cX1_init 18 = .ok (.invokespecial 17, 3) := by decide +kernel
theorem dX1_init_21 : decode cX1_init 21 = .ok (.putfield 18, 3) := by decide +kernel
theorem dX1_init_24 : decode cX1_init 24 = .ok (.aload_n 0, 1) := by decide +kernel
theorem dX1_init_25 : decode cX1_init 25 = .ok (.bipush 8, 2) := by decide +kernel
theorem dX1_init_27 : decode cX1_init 27 = .ok (.newarray .int, 2) := by decide +kernel
theorem dX1_init_29 : decode cX1_init 29 = .ok (.putfield 22, 3) := by decide +kernel
theorem dX1_init_32 : decode cX1_init 32 = .ok (.aconst_null, 1) := by decide +kernel
theorem dX1_init_33 : decode cX1_init 33 = .ok (.astore_n 1, 1) := by decide +kernel
theorem dX1_init_34 : decode cX1_init 34 = .ok (.iconst 0, 1) := by decide +kernel
theorem dX1_init_35 : decode cX1_init 35 = .ok (.istore_n 2, 1) := by decide +kernel
theorem dX1_init_36 : decode cX1_init 36 = .ok (.iload_n 2, 1) := by decide +kernel
theorem dX1_init_37 : decode cX1_init 37 = .ok (.bipush 6, 2) := by decide +kernel
theorem dX1_init_39 : decode cX1_init 39 = .ok (.if_icmp .ge 26, 3) := by decide +kernel
theorem dX1_init_42 : decode cX1_init 42 = .ok (.new 9, 3) := by decide +kernel
theorem dX1_init_45 : decode cX1_init 45 = .ok (.dup, 1) := by decide +kernel
theorem dX1_init_46 : decode cX1_init 46 = .ok (.iload_n 2, 1) := by decide +kernel
theorem dX1_init_47 : decode cX1_init 47 = .ok (.aload_n 1, 1) := by decide +kernel
theorem dX1_init_48 : decode cX1_init 48 = .ok (.invokespecial 26, 3) := by decide +kernel
theorem dX1_init_51 : decode cX1_init 51 = .ok (.astore_n 1, 1) := by decide +kernel
theorem dX1_init_52 : decode cX1_init 52 = .ok (.aload_n 0, 1) := by decide +kernel
theorem dX1_init_53 : decode cX1_init 53 = .ok (.getfield 11, 3) := by decide +kernel
theorem dX1_init_56 : decode cX1_init 56 = .ok (.iload_n 2, 1) := by decide +kernel
theorem dX1_init_57 : decode cX1_init 57 = .ok (.aload_n 1, 1) := by decide +kernel
theorem dX1_init_58 : decode cX1_init 58 = .ok (.aastore, 1) := by decide +kernel
theorem dX1_init_59 : decode cX1_init 59 = .ok (.iinc 2 1, 3) := by decide +kernel
theorem dX1_init_62 : decode cX1_init 62 = .ok (.goto (-26), 3) := by decide +kernel
theorem dX1_init_65 : decode cX1_init 65 = .ok (.aload_n 0, 1) := by decide +kernel
theorem dX1_init_66 : decode cX1_init 66 = .ok (.iconst 2, 1) := by decide +kernel
theorem dX1_init_67 : decode cX1_init 67 = .ok (.putfield 29, 3) := by decide +kernel
theorem dX1_init_70 : decode cX1_init 70 = .ok (.return_, 1) := by decide +kernel
set_option maxRecDepth 20000 in
theorem ggX1_renew_X3_renew : GoodIn wsX1_renew wsX3_renew := goodIn_r _ [14, 15, 16, 17, 18, 19, 20, 21, 22, 23, 24, 25, 26, 27, 28, 29, 30, 31, 51, 52, 53, 54, 55, 56, 57, 58, 59, 60, 61, 62, 63, 64] (by decide +kernel) (by decide +kernel)
set_option maxRecDepth 20000 in
theorem gX1_renew_X3_renew : GoodIn wsX1_renew (wsV RX1 33 RX3 yX3_renew wsX3_renew) := goodIn_app (goodIn_of _ (by decide +kernel)) ggX1_renew_X3_renew
set_option maxRecDepth 20000 in
theorem ggX1_renew_X2_clear : GoodIn wsX1_renew wsX2_clear := goodIn_r _ [36, 37, 65, 66, 67, 68] (by decide +kernel) (by decide +kernel)
set_option maxRecDepth 20000 in
theorem gX1_renew_X2_clear : GoodIn wsX1_renew (wsV RX1 36 RX2 yX2_clear wsX2_clear) := goodIn_app (goodIn_of _ (by decide +kernel)) ggX1_renew_X2_clear
set_option maxRecDepth 20000 in
theorem ggX1_renew_J7_fill_53178 : GoodIn wsX1_renew wsJ7_fill_53178 := goodIn_r _ [41] (by decide +kernel) (by decide +kernel)
set_option maxRecDepth 20000 in
theorem gX1_renew_J7_fill_53178 : GoodIn wsX1_renew (va_wsS RX1 39 yJ7_fill_53178 wsJ7_fill_53178) := goodIn_app (goodIn_of _ (by decide +kernel)) ggX1_renew_J7_fill_53178
theorem dX1_renew_0 : decode cX1_renew 0 = .ok (.aload_n 0, 1) := by decide +kernel
theorem dX1_renew_1 : decode cX1_renew 1 = .ok (.iload_n 1, 1) := by decide +kernel
theorem dX1_renew_2 : decode cX1_renew 2 = .ok (.putfield 29, 3) := by decide +kernel
theorem dX1_renew_5 : decode cX1_renew 5 = .ok (.iconst 0, 1) := by decide +kernel
theorem dX1_renew_6 : decode cX1_renew 6 = .ok (.istore_n 2, 1) := by decide +kernel
theorem dX1_renew_7 : decode cX1_renew 7 = .ok (.iload_n 2, 1) := by decide +kernel
theorem dX1_renew_8 : decode cX1_renew 8 = .ok (.bipush 6, 2) := by decide +kernel
theorem dX1_renew_10 : decode cX1_renew 10 = .ok (.if_icmp .ge 24, 3) := by decide +kernel
theorem dX1_renew_13 : decode cX1_renew 13 = .ok (.aload_n 0, 1) := by decide +kernel
theorem dX1_renew_14 : decode cX1_renew 14 = .ok (.getfield 11, 3) := by decide +kernel
theorem dX1_renew_17 : decode cX1_renew 17 = .ok (.iload_n 2, 1) := by decide +kernel
theorem dX1_renew_18 : decode cX1_renew 18 = .ok (.aaload, 1) := by decide +kernel
theorem dX1_renew_19 : decode cX1_renew 19 = .ok (.astore_n 3, 1) := by decide +kernel
theorem dX1_renew_20 : decode cX1_renew 20 = .ok (.aload_n 3, 1) := by decide +kernel
theorem dX1_renew_21 : decode cX1_renew 21 = .ok (.ifnull 7, 3) := by decide +kernel
theorem dX1_renew_24 : decode cX1_renew 24 = .ok (.aload_n 3, 1) := by decide +kernel
theorem dX1_renew_25 : decode cX1_renew 25 = .ok (.invokevirtual 33, 3) := by decide +kernel
theorem dX1_renew_28 : decode cX1_renew 28 = .ok (.iinc 2 1, 3) := by decide +kernel
theorem dX1_renew_31 : decode cX1_renew 31 = .ok (.goto (-24), 3) := by decide +kernel
theorem dX1_renew_34 : decode cX1_renew 34 = .ok (.aload_n 0, 1) := by decide +kernel
theorem dX1_renew_35 : decode cX1_renew 35 = .ok (.getfield 18, 3) := by decide +kernel
theorem dX1_renew_38 : decode cX1_renew 38 = .ok (.invokevirtual 36, 3) := by decide +kernel
theorem dX1_renew_41 : decode cX1_renew 41 = .ok (.aload_n 0, 1) := by decide +kernel
theorem dX1_renew_42 : decode cX1_renew 42 = .ok (.getfield 22, 3) := by decide +kernel
theorem dX1_renew_45 : decode cX1_renew 45 = .ok (.iconst 0, 1) := by decide +kernel
theorem dX1_renew_46 : decode cX1_renew 46 = .ok (.invokestatic 39, 3) := by decide +kernel
theorem dX1_renew_49 : decode cX1_renew 49 = .ok (.aload_n 0, 1) := by decide +kernel
theorem dX1_renew_50 : decode cX1_renew 50 = .ok (.iconst 0, 1) := by decide +kernel
theorem dX1_renew_51 : decode cX1_renew 51 = .ok (.putfield 45, 3) := by decide +kernel
theorem dX1_renew_54 : decode cX1_renew 54 = .ok (.aload_n 0, 1) := by decide +kernel
theorem dX1_renew_55 : decode cX1_renew 55 = .ok (.iconst 0, 1) := by decide +kernel
theorem dX1_renew_56 : decode cX1_renew 56 = .ok (.putfield 48, 3) := by decide +kernel
theorem dX1_renew_59 : decode cX1_renew 59 = .ok (.aload_n 0, 1) := by decide +kernel
theorem dX1_renew_60 : decode cX1_renew 60 = .ok (.iconst 0, 1) := by decide +kernel
theorem dX1_renew_61 : decode cX1_renew 61 = .ok (.putfield 51, 3) := by decide +kernel
theorem dX1_renew_64 : decode cX1_renew 64 = .ok (.aload_n 0, 1) := by decide +kernel
theorem dX1_renew_65 : decode cX1_renew 65 = .ok (.iconst 0, 1) := by decide +kernel
theorem dX1_renew_66 : decode cX1_renew 66 = .ok (.putfield 54, 3) := by decide +kernel
theorem dX1_renew_69 : decode cX1_renew 69 = .ok (.aload_n 0, 1) := by decide +kernel
theorem dX1_renew_70 : decode cX1_renew 70 = .ok (.iconst 0, 1) := by decide +kernel
theorem dX1_renew_71 : decode cX1_renew 71 = .ok (.putfield 57, 3) := by decide +kernel
theorem dX1_renew_74 : decode cX1_renew 74 = .ok (.return_, 1) := by decide +kernel
theorem dX1_machineAt_0 : decode cX1_machineAt 0 = .ok (.iload_n 1, 1) := by decide +kernel
theorem dX1_machineAt_1 : decode cX1_machineAt 1 = .ok (.ifCond .lt 26, 3) := by decide +kernel
theorem dX1_machineAt_4 : decode cX1_machineAt 4 = .ok (.iload_n 1, 1) := by decide +kernel
theorem dX1_machineAt_5 : decode cX1_machineAt 5 = .ok (.aload_n 0, 1) := by decide +kernel
theorem dX1_machineAt_6 : decode cX1_machineAt 6 = .ok (.getfield 29, 3) := by decide +kernel
theorem dX1_machineAt_9 : decode cX1_machineAt 9 = .ok (.if_icmp .ge 18, 3) := by decide +kernel
theorem dX1_machineAt_12 : decode cX1_machineAt 12 = .ok (.iload_n 1, 1) := by decide +kernel
theorem dX1_machineAt_13 : decode cX1_machineAt 13 = .ok (.bipush 6, 2) := by decide +kernel
theorem dX1_machineAt_15 : decode cX1_machineAt 15 = .ok (.if_icmp .ge 12, 3) := by decide +kernel
theorem dX1_machineAt_18 : decode cX1_machineAt 18 = .ok (.aload_n 0, 1) := by decide +kernel
theorem dX1_machineAt_19 : decode cX1_machineAt 19 = .ok (.getfield 11, 3) := by decide +kernel
theorem dX1_machineAt_22 : decode cX1_machineAt 22 = .ok (.iload_n 1, 1) := by decide +kernel
theorem dX1_machineAt_23 : decode cX1_machineAt 23 = .ok (.aaload, 1) := by decide +kernel
theorem dX1_machineAt_24 : decode cX1_machineAt 24 = .ok (.goto 4, 3) := by decide +kernel
theorem dX1_machineAt_27 : decode cX1_machineAt 27 = .ok (.aconst_null, 1) := by decide +kernel
theorem dX1_machineAt_28 : decode cX1_machineAt 28 = .ok (.areturn, 1) := by decide +kernel
theorem dX1_isLast_0 : decode cX1_isLast 0 = .ok (.aload_n 1, 1) := by decide +kernel
theorem dX1_isLast_1 : decode cX1_isLast 1 = .ok (.getfield 60, 3) := by decide +kernel
theorem dX1_isLast_4 : decode cX1_isLast 4 = .ok (.aload_n 0, 1) := by decide +kernel
theorem dX1_isLast_5 : decode cX1_isLast 5 = .ok (.getfield 29, 3) := by decide +kernel
theorem dX1_isLast_8 : decode cX1_isLast 8 = .ok (.iconst 1, 1) := by decide +kernel
theorem dX1_isLast_9 : decode cX1_isLast 9 = .ok (.isub, 1) := by decide +kernel
theorem dX1_isLast_10 : decode cX1_isLast 10 = .ok (.if_icmp .ne 7, 3) := by decide +kernel
theorem dX1_isLast_13 : decode cX1_isLast 13 = .ok (.iconst 1, 1) := by decide +kernel
theorem dX1_isLast_14 : decode cX1_isLast 14 = .ok (.goto 4, 3) := by decide +kernel
theorem dX1_isLast_17 : decode cX1_isLast 17 = .ok (.iconst 0, 1) := by decide +kernel
theorem dX1_isLast_18 : decode cX1_isLast 18 = .ok (.ireturn, 1) := by decide +kernel
set_option maxRecDepth 20000 in
theorem ggX1_last_X1_machineAt : GoodIn wsX1_last wsX1_machineAt := goodIn_r _ [6, 1, 7, 8, 9, 10, 11, 12, 13, 14, 15, 16] (by decide +kernel) (by decide +kernel)
set_option maxRecDepth 20000 in
theorem gX1_last_X1_machineAt : GoodIn wsX1_last (wsV RX1 63 RX1 yX1_machineAt wsX1_machineAt) := goodIn_app (goodIn_of _ (by decide +kernel)) ggX1_last_X1_machineAt
theorem dX1_last_0 : decode cX1_last 0 = .ok (.aload_n 0, 1) := by decide +kernel
theorem dX1_last_1 : decode cX1_last 1 = .ok (.aload_n 0, 1) := by decide +kernel
theorem dX1_last_2 : decode cX1_last 2 = .ok (.getfield 29, 3) := by decide +kernel
theorem dX1_last_5 : decode cX1_last 5 = .ok (.iconst 1, 1) := by decide +kernel
theorem dX1_last_6 : decode cX1_last 6 = .ok (.isub, 1) := by decide +kernel
theorem dX1_last_7 : decode cX1_last 7 = .ok (.invokevirtual 63, 3) := by decide +kernel
theorem dX1_last_10 : decode cX1_last 10 = .ok (.areturn, 1) := by decide +kernel
set_option maxRecDepth 20000 in
theorem ggX1_step_X1_last : GoodIn wsX1_step wsX1_last := goodIn_r _ [10, 11, 12, 13, 14, 9, 15, 16, 94, 95, 96, 97, 98, 99, 100, 101, 102] (by decide +kernel) (by decide +kernel)
set_option maxRecDepth 20000 in
theorem gX1_step_X1_last : GoodIn wsX1_step (wsV RX1 67 RX1 yX1_last wsX1_last) := goodIn_app (goodIn_of _ (by decide +kernel)) ggX1_step_X1_last
set_option maxRecDepth 20000 in
theorem ggX1_step_X1_stepOf : GoodIn wsX1_step wsX1_stepOf := goodIn_r _ [20, 21, 22, 5, 23, 24, 25, 26, 27, 28, 29, 30, 31, 32, 33, 34, 35, 36, 37, 38, 39, 40, 41, 42, 43, 44, 45, 46, 47, 48, 49, 50, 51, 52, 53, 54, 9, 55, 4, 56, 57, 58, 59, 60, 61, 62, 63, 64, 65, 66, 67, 1, 68, 69, 70, 71, 72, 73, 74, 75, 76, 77, 78, 79, 80, 81, 82, 83, 84, 85, 86, 87, 11, 94, 95, 96, 97, 98, 99, 100, 101, 102, 103, 104, 105, 106, 107, 108, 109, 110, 111, 112, 113, 114, 115, 116, 117, 118, 119, 120] (by decide +kernel) (by decide +kernel)
set_option maxRecDepth 20000 in
theorem gX1_step_X1_stepOf : GoodIn wsX1_step (wsV RX1 71 RX1 yX1_stepOf wsX1_stepOf) := goodIn_app (goodIn_of _ (by decide +kernel)) ggX1_step_X1_stepOf
set_option maxRecDepth 20000 in
theorem ggX1_step_X1_layOnCause : GoodIn wsX1_step wsX1_layOnCause := goodIn_r _ [91, 2, 92, 4, 93, 22, 6, 7, 8, 9, 10, 11, 12, 13, 14, 15, 16, 35, 36, 37, 103, 104, 105, 106, 107, 108, 109, 110, 111, 112, 113, 114, 115, 116, 94, 95, 96, 97, 98, 99, 100, 101, 102] (by decide +kernel) (by decide +kernel)
set_option maxRecDepth 20000 in
theorem gX1_step_X1_layOnCause : GoodIn wsX1_step (wsV RX1 85 RX1 yX1_layOnCause wsX1_layOnCause) := goodIn_app (goodIn_of _ (by decide +kernel)) ggX1_step_X1_layOnCause
theorem dX1_step_0 : decode cX1_step 0 = .ok (.aload_n 0, 1) := by decide +kernel
theorem dX1_step_1 : decode cX1_step 1 = .ok (.getfield 54, 3) := by decide +kernel
theorem dX1_step_4 : decode cX1_step 4 = .ok (.istore_n 1, 1) := by decide +kernel
theorem dX1_step_5 : decode cX1_step 5 = .ok (.aload_n 0, 1) := by decide +kernel
theorem dX1_step_6 : decode cX1_step 6 = .ok (.invokevirtual 67, 3) := by decide +kernel
theorem dX1_step_9 : decode cX1_step 9 = .ok (.astore_n 2, 1) := by decide +kernel
theorem dX1_step_10 : decode cX1_step 10 = .ok (.aload_n 2, 1) := by decide +kernel
theorem dX1_step_11 : decode cX1_step 11 = .ok (.ifnull 38, 3) := by decide +kernel
theorem dX1_step_14 : decode cX1_step 14 = .ok (.aload_n 2, 1) := by decide +kernel
theorem dX1_step_15 : decode cX1_step 15 = .ok (.aload_n 0, 1) := by decide +kernel
theorem dX1_step_16 : decode cX1_step 16 = .ok (.aload_n 2, 1) := by decide +kernel
theorem dX1_step_17 : decode cX1_step 17 = .ok (.invokevirtual 71, 3) := by decide +kernel
theorem dX1_step_20 : decode cX1_step 20 = .ok (.putfield 75, 3) := by decide +kernel
theorem dX1_step_23 : decode cX1_step 23 = .ok (.aload_n 2, 1) := by decide +kernel
theorem dX1_step_24 : decode cX1_step 24 = .ok (.getfield 75, 3) := by decide +kernel
theorem dX1_step_27 : decode cX1_step 27 = .ok (.iconst 3, 1) := by decide +kernel
theorem dX1_step_28 : decode cX1_step 28 = .ok (.if_icmp .ne 13, 3) := by decide +kernel
theorem dX1_step_31 : decode cX1_step 31 = .ok (.aload_n 2, 1) := by decide +kernel
theorem dX1_step_32 : decode cX1_step 32 = .ok (.dup, 1) := by decide +kernel
theorem dX1_step_33 : decode cX1_step 33 = .ok (.getfield 78, 3) := by decide +kernel
theorem dX1_step_36 : decode cX1_step 36 = .ok (.iconst 1, 1) := by decide +kernel
theorem dX1_step_37 : decode cX1_step 37 = .ok (.iadd, 1) := by decide +kernel
theorem dX1_step_38 : decode cX1_step 38 = .ok (.putfield 78, 3) := by decide +kernel
theorem dX1_step_41 : decode cX1_step 41 = .ok (.aload_n 2, 1) := by decide +kernel
theorem dX1_step_42 : decode cX1_step 42 = .ok (.getfield 81, 3) := by decide +kernel
theorem dX1_step_45 : decode cX1_step 45 = .ok (.astore_n 2, 1) := by decide +kernel
theorem dX1_step_46 : decode cX1_step 46 = .ok (.goto (-36), 3) := by decide +kernel
theorem dX1_step_49 : decode cX1_step 49 = .ok (.aload_n 0, 1) := by decide +kernel
theorem dX1_step_50 : decode cX1_step 50 = .ok (.invokevirtual 85, 3) := by decide +kernel
theorem dX1_step_53 : decode cX1_step 53 = .ok (.aload_n 0, 1) := by decide +kernel
theorem dX1_step_54 : decode cX1_step 54 = .ok (.dup, 1) := by decide +kernel
theorem dX1_step_55 : decode cX1_step 55 = .ok (.getfield 45, 3) := by decide +kernel
theorem dX1_step_58 : decode cX1_step 58 = .ok (.iconst 1, 1) := by decide +kernel
theorem dX1_step_59 : decode cX1_step 59 = .ok (.iadd, 1) := by decide +kernel
theorem dX1_step_60 : decode cX1_step 60 = .ok (.putfield 45, 3) := by decide +kernel
theorem dX1_step_63 : decode cX1_step 63 = .ok (.aload_n 0, 1) := by decide +kernel
theorem dX1_step_64 : decode cX1_step 64 = .ok (.getfield 54, 3) := by decide +kernel
theorem dX1_step_67 : decode cX1_step 67 = .ok (.iload_n 1, 1) := by decide +kernel
theorem dX1_step_68 : decode cX1_step 68 = .ok (.if_icmp .eq 7, 3) := by decide +kernel
theorem dX1_step_71 : decode cX1_step 71 = .ok (.iconst 1, 1) := by decide +kernel
theorem dX1_step_72 : decode cX1_step 72 = .ok (.goto 4, 3) := by decide +kernel
theorem dX1_step_75 : decode cX1_step 75 = .ok (.iconst 0, 1) := by decide +kernel
theorem dX1_step_76 : decode cX1_step 76 = .ok (.ireturn, 1) := by decide +kernel
set_option maxRecDepth 20000 in
theorem ggX1_stepOf_X2_stop : GoodIn wsX1_stepOf wsX2_stop := goodIn_r _ [11, 12, 13, 14, 15, 16, 17, 18, 96, 97, 98, 99] (by decide +kernel) (by decide +kernel)
set_option maxRecDepth 20000 in
theorem gX1_stepOf_X2_stop : GoodIn wsX1_stepOf (wsV RX1 88 RX2 yX2_stop wsX2_stop) := goodIn_app (goodIn_of _ (by decide +kernel)) ggX1_stepOf_X2_stop
set_option maxRecDepth 20000 in
theorem ggX1_stepOf_X3_waitsForWord : GoodIn wsX1_stepOf wsX3_waitsForWord := goodIn_r _ [23, 24, 25, 82, 83, 84, 85, 86, 87, 88, 89, 90, 91, 92, 93, 94, 95] (by decide +kernel) (by decide +kernel)
set_option maxRecDepth 20000 in
theorem gX1_stepOf_X3_waitsForWord : GoodIn wsX1_stepOf (wsV RX1 92 RX3 yX3_waitsForWord wsX3_waitsForWord) := goodIn_app (goodIn_of _ (by decide +kernel)) ggX1_stepOf_X3_waitsForWord
set_option maxRecDepth 20000 in
theorem ggX1_stepOf_X3_giveOn : GoodIn wsX1_stepOf wsX3_giveOn := goodIn_r _ [29, 30, 31, 32, 82, 83, 84, 85, 86, 87, 88, 89, 90, 91, 92, 93, 94, 95] (by decide +kernel) (by decide +kernel)
set_option maxRecDepth 20000 in
theorem gX1_stepOf_X3_giveOn : GoodIn wsX1_stepOf (wsV RX1 100 RX3 yX3_giveOn wsX3_giveOn) := goodIn_app (goodIn_of _ (by decide +kernel)) ggX1_stepOf_X3_giveOn
set_option maxRecDepth 20000 in
theorem ggX1_stepOf_X1_takeFor : GoodIn wsX1_stepOf wsX1_takeFor := goodIn_r _ [37, 38, 39, 40, 41, 5, 82, 83, 84, 85, 86, 87, 88, 89, 90, 91, 92, 93, 94, 95, 73, 74, 75, 76, 77, 78, 79, 80, 81] (by decide +kernel) (by decide +kernel)
set_option maxRecDepth 20000 in
theorem gX1_stepOf_X1_takeFor : GoodIn wsX1_stepOf (wsV RX1 107 RX1 yX1_takeFor wsX1_takeFor) := goodIn_app (goodIn_of _ (by decide +kernel)) ggX1_stepOf_X1_takeFor
set_option maxRecDepth 20000 in
theorem ggX1_stepOf_X3_unitIsFinished : GoodIn wsX1_stepOf wsX3_unitIsFinished := goodIn_r _ [45, 46, 31, 82, 83, 84, 85, 86, 87, 88, 89, 90, 91, 92, 93, 94, 95] (by decide +kernel) (by decide +kernel)
set_option maxRecDepth 20000 in
theorem gX1_stepOf_X3_unitIsFinished : GoodIn wsX1_stepOf (wsV RX1 114 RX3 yX3_unitIsFinished wsX3_unitIsFinished) := goodIn_app (goodIn_of _ (by decide +kernel)) ggX1_stepOf_X3_unitIsFinished
set_option maxRecDepth 20000 in
theorem ggX1_stepOf_X1_finishAt : GoodIn wsX1_stepOf wsX1_finishAt := goodIn_r _ [50, 3, 51, 4, 52, 53, 54, 22, 55, 56, 46, 57, 31, 58, 59, 60, 61, 62, 63, 64, 65, 66, 67, 24, 25, 68, 69, 70, 36, 71, 2, 72, 73, 74, 75, 76, 77, 78, 79, 80, 81, 82, 83, 84, 85, 86, 87, 88, 89, 90, 91, 92, 93, 94, 95] (by decide +kernel) (by decide +kernel)
set_option maxRecDepth 20000 in
theorem gX1_stepOf_X1_finishAt : GoodIn wsX1_stepOf (wsV RX1 117 RX1 yX1_finishAt wsX1_finishAt) := goodIn_app (goodIn_of _ (by decide +kernel)) ggX1_stepOf_X1_finishAt
theorem dX1_stepOf_0 : decode cX1_stepOf 0 = .ok (.aload_n 0, 1) := by decide +kernel
theorem dX1_stepOf_1 : decode cX1_stepOf 1 = .ok (.getfield 18, 3) := by decide +kernel
theorem dX1_stepOf_4 : decode cX1_stepOf 4 = .ok (.aload_n 1, 1) := by decide +kernel
theorem dX1_stepOf_5 : decode cX1_stepOf 5 = .ok (.getfield 60, 3) := by decide +kernel
theorem dX1_stepOf_8 : decode cX1_stepOf 8 = .ok (.aload_n 0, 1) := by decide +kernel
theorem dX1_stepOf_9 : decode cX1_stepOf 9 = .ok (.getfield 45, 3) := by decide +kernel
theorem dX1_stepOf_12 : decode cX1_stepOf 12 = .ok (.invokevirtual 88, 3) := by decide +kernel
theorem dX1_stepOf_15 : decode cX1_stepOf 15 = .ok (.ifCond .eq 5, 3) := by decide +kernel
theorem dX1_stepOf_18 : decode cX1_stepOf 18 = .ok (.iconst 0, 1) := by decide +kernel
theorem dX1_stepOf_19 : decode cX1_stepOf 19 = .ok (.ireturn, 1) := by decide +kernel
theorem dX1_stepOf_20 : decode cX1_stepOf 20 = .ok (.aload_n 1, 1) := by decide +kernel
theorem dX1_stepOf_21 : decode cX1_stepOf 21 = .ok (.aload_n 0, 1) := by decide +kernel
theorem dX1_stepOf_22 : decode cX1_stepOf 22 = .ok (.getfield 45, 3) := by decide +kernel
theorem dX1_stepOf_25 : decode cX1_stepOf 25 = .ok (.invokevirtual 92, 3) := by decide +kernel
theorem dX1_stepOf_28 : decode cX1_stepOf 28 = .ok (.ifCond .eq 5, 3) := by decide +kernel
theorem dX1_stepOf_31 : decode cX1_stepOf 31 = .ok (.iconst 1, 1) := by decide +kernel
theorem dX1_stepOf_32 : decode cX1_stepOf 32 = .ok (.ireturn, 1) := by decide +kernel
theorem dX1_stepOf_33 : decode cX1_stepOf 33 = .ok (.aload_n 1, 1) := by decide +kernel
theorem dX1_stepOf_34 : decode cX1_stepOf 34 = .ok (.getfield 96, 3) := by decide +kernel
theorem dX1_stepOf_37 : decode cX1_stepOf 37 = .ok (.ifCond .eq 12, 3) := by decide +kernel
theorem dX1_stepOf_40 : decode cX1_stepOf 40 = .ok (.aload_n 1, 1) := by decide +kernel
theorem dX1_stepOf_41 : decode cX1_stepOf 41 = .ok (.invokevirtual 100, 3) := by decide +kernel
theorem dX1_stepOf_44 : decode cX1_stepOf 44 = .ok (.ifCond .ne 5, 3) := by decide +kernel
theorem dX1_stepOf_47 : decode cX1_stepOf 47 = .ok (.iconst 2, 1) := by decide +kernel
theorem dX1_stepOf_48 : decode cX1_stepOf 48 = .ok (.ireturn, 1) := by decide +kernel
theorem dX1_stepOf_49 : decode cX1_stepOf 49 = .ok (.aload_n 1, 1) := by decide +kernel
theorem dX1_stepOf_50 : decode cX1_stepOf 50 = .ok (.getfield 104, 3) := by decide +kernel
theorem dX1_stepOf_53 : decode cX1_stepOf 53 = .ok (.ifCond .ne 13, 3) := by decide +kernel
theorem dX1_stepOf_56 : decode cX1_stepOf 56 = .ok (.aload_n 0, 1) := by decide +kernel
theorem dX1_stepOf_57 : decode cX1_stepOf 57 = .ok (.aload_n 1, 1) := by decide +kernel
theorem dX1_stepOf_58 : decode cX1_stepOf 58 = .ok (.invokevirtual 107, 3) := by decide +kernel
theorem dX1_stepOf_61 : decode cX1_stepOf 61 = .ok (.ifCond .ne 5, 3) := by decide +kernel
theorem dX1_stepOf_64 : decode cX1_stepOf 64 = .ok (.iconst 4, 1) := by decide +kernel
theorem dX1_stepOf_65 : decode cX1_stepOf 65 = .ok (.ireturn, 1) := by decide +kernel
theorem dX1_stepOf_66 : decode cX1_stepOf 66 = .ok (.aload_n 1, 1) := by decide +kernel
theorem dX1_stepOf_67 : decode cX1_stepOf 67 = .ok (.dup, 1) := by decide +kernel
theorem dX1_stepOf_68 : decode cX1_stepOf 68 = .ok (.getfield 111, 3) := by decide +kernel
theorem dX1_stepOf_71 : decode cX1_stepOf 71 = .ok (.iconst 1, 1) := by decide +kernel
theorem dX1_stepOf_72 : decode cX1_stepOf 72 = .ok (.iadd, 1) := by decide +kernel
theorem dX1_stepOf_73 : decode cX1_stepOf 73 = .ok (.putfield 111, 3) := by decide +kernel
theorem dX1_stepOf_76 : decode cX1_stepOf 76 = .ok (.aload_n 1, 1) := by decide +kernel
theorem dX1_stepOf_77 : decode cX1_stepOf 77 = .ok (.invokevirtual 114, 3) := by decide +kernel
theorem dX1_stepOf_80 : decode cX1_stepOf 80 = .ok (.ifCond .eq 8, 3) := by decide +kernel
theorem dX1_stepOf_83 : decode cX1_stepOf 83 = .ok (.aload_n 0, 1) := by decide +kernel
theorem dX1_stepOf_84 : decode cX1_stepOf 84 = .ok (.aload_n 1, 1) := by decide +kernel
theorem dX1_stepOf_85 : decode cX1_stepOf 85 = .ok (.invokevirtual 117, 3) := by decide +kernel
theorem dX1_stepOf_88 : decode cX1_stepOf 88 = .ok (.iconst 3, 1) := by decide +kernel
theorem dX1_stepOf_89 : decode cX1_stepOf 89 = .ok (.ireturn, 1) := by decide +kernel
theorem dX1_takeFor_0 : decode cX1_takeFor 0 = .ok (.aload_n 1, 1) := by decide +kernel
theorem dX1_takeFor_1 : decode cX1_takeFor 1 = .ok (.getfield 81, 3) := by decide +kernel
theorem dX1_takeFor_4 : decode cX1_takeFor 4 = .ok (.ifnonnull 35, 3) := by decide +kernel
theorem dX1_takeFor_7 : decode cX1_takeFor 7 = .ok (.aload_n 0, 1) := by decide +kernel
theorem dX1_takeFor_8 : decode cX1_takeFor 8 = .ok (.getfield 48, 3) := by decide +kernel
theorem dX1_takeFor_11 : decode cX1_takeFor 11 = .ok (.ifCond .ne 5, 3) := by decide +kernel
theorem dX1_takeFor_14 : decode cX1_takeFor 14 = .ok (.iconst 0, 1) := by decide +kernel
theorem dX1_takeFor_15 : decode cX1_takeFor 15 = .ok (.ireturn, 1) := by decide +kernel
theorem dX1_takeFor_16 : decode cX1_takeFor 16 = .ok (.aload_n 0, 1) := by decide +kernel
theorem dX1_takeFor_17 : decode cX1_takeFor 17 = .ok (.dup, 1) := by decide +kernel
theorem dX1_takeFor_18 : decode cX1_takeFor 18 = .ok (.getfield 48, 3) := by decide +kernel
theorem dX1_takeFor_21 : decode cX1_takeFor 21 = .ok (.iconst 1, 1) := by decide +kernel
theorem dX1_takeFor_22 : decode cX1_takeFor 22 = .ok (.isub, 1) := by decide +kernel
theorem dX1_takeFor_23 : decode cX1_takeFor 23 = .ok (.putfield 48, 3) := by decide +kernel
theorem dX1_takeFor_26 : decode cX1_takeFor 26 = .ok (.aload_n 0, 1) := by decide +kernel
theorem dX1_takeFor_27 : decode cX1_takeFor 27 = .ok (.dup, 1) := by decide +kernel
theorem dX1_takeFor_28 : decode cX1_takeFor 28 = .ok (.getfield 51, 3) := by decide +kernel
theorem dX1_takeFor_31 : decode cX1_takeFor 31 = .ok (.iconst 1, 1) := by decide +kernel
theorem dX1_takeFor_32 : decode cX1_takeFor 32 = .ok (.iadd, 1) := by decide +kernel
theorem dX1_takeFor_33 : decode cX1_takeFor 33 = .ok (.putfield 51, 3) := by decide +kernel
theorem dX1_takeFor_36 : decode cX1_takeFor 36 = .ok (.goto 28, 3) := by decide +kernel
theorem dX1_takeFor_39 : decode cX1_takeFor 39 = .ok (.aload_n 1, 1) := by decide +kernel
theorem dX1_takeFor_40 : decode cX1_takeFor 40 = .ok (.getfield 81, 3) := by decide +kernel
theorem dX1_takeFor_43 : decode cX1_takeFor 43 = .ok (.getfield 121, 3) := by decide +kernel
theorem dX1_takeFor_46 : decode cX1_takeFor 46 = .ok (.ifCond .ne 5, 3) := by decide +kernel
theorem dX1_takeFor_49 : decode cX1_takeFor 49 = .ok (.iconst 0, 1) := by decide +kernel
theorem dX1_takeFor_50 : decode cX1_takeFor 50 = .ok (.ireturn, 1) := by decide +kernel
theorem dX1_takeFor_51 : decode cX1_takeFor 51 = .ok (.aload_n 1, 1) := by decide +kernel
theorem dX1_takeFor_52 : decode cX1_takeFor 52 = .ok (.getfield 81, 3) := by decide +kernel
theorem dX1_takeFor_55 : decode cX1_takeFor 55 = .ok (.dup, 1) := by decide +kernel
theorem dX1_takeFor_56 : decode cX1_takeFor 56 = .ok (.getfield 121, 3) := by decide +kernel
theorem dX1_takeFor_59 : decode cX1_takeFor 59 = .ok (.iconst 1, 1) := by decide +kernel
theorem dX1_takeFor_60 : decode cX1_takeFor 60 = .ok (.isub, 1) := by decide +kernel
theorem dX1_takeFor_61 : decode cX1_takeFor 61 = .ok (.putfield 121, 3) := by decide +kernel
theorem dX1_takeFor_64 : decode cX1_takeFor 64 = .ok (.aload_n 1, 1) := by decide +kernel
theorem dX1_takeFor_65 : decode cX1_takeFor 65 = .ok (.iconst 1, 1) := by decide +kernel
theorem dX1_takeFor_66 : decode cX1_takeFor 66 = .ok (.putfield 104, 3) := by decide +kernel
theorem dX1_takeFor_69 : decode cX1_takeFor 69 = .ok (.iconst 1, 1) := by decide +kernel
theorem dX1_takeFor_70 : decode cX1_takeFor 70 = .ok (.ireturn, 1) := by decide +kernel
set_option maxRecDepth 20000 in
theorem ggX1_finishAt_X3_passes : GoodIn wsX1_finishAt wsX3_passes := goodIn_r _ [8, 9, 10, 11, 12, 13, 14, 15, 16, 7, 17, 18, 19, 20, 21, 22, 23, 24, 41, 42, 43, 44, 45, 46, 47, 48, 49, 50, 51, 52, 53, 54] (by decide +kernel) (by decide +kernel)
set_option maxRecDepth 20000 in
theorem gX1_finishAt_X3_passes : GoodIn wsX1_finishAt (wsV RX1 124 RX3 yX3_passes wsX3_passes) := goodIn_app (goodIn_of _ (by decide +kernel)) ggX1_finishAt_X3_passes
set_option maxRecDepth 20000 in
theorem ggX1_finishAt_X1_isLast : GoodIn wsX1_finishAt wsX1_isLast := goodIn_r _ [29, 30, 31, 41, 42, 43, 44, 45, 46, 47, 48, 49, 50, 51, 52, 53, 54, 32, 33, 34, 35, 36, 37, 38, 39, 40] (by decide +kernel) (by decide +kernel)
set_option maxRecDepth 20000 in
theorem gX1_finishAt_X1_isLast : GoodIn wsX1_finishAt (wsV RX1 127 RX1 yX1_isLast wsX1_isLast) := goodIn_app (goodIn_of _ (by decide +kernel)) ggX1_finishAt_X1_isLast
theorem dX1_finishAt_0 : decode cX1_finishAt 0 = .ok (.aload_n 1, 1) := by decide +kernel
theorem dX1_finishAt_1 : decode cX1_finishAt 1 = .ok (.aload_n 0, 1) := by decide +kernel
theorem dX1_finishAt_2 : decode cX1_finishAt 2 = .ok (.getfield 45, 3) := by decide +kernel
theorem dX1_finishAt_5 : decode cX1_finishAt 5 = .ok (.invokevirtual 124, 3) := by decide +kernel
theorem dX1_finishAt_8 : decode cX1_finishAt 8 = .ok (.ifCond .ne 4, 3) := by decide +kernel
theorem dX1_finishAt_11 : decode cX1_finishAt 11 = .ok (.return_, 1) := by decide +kernel
theorem dX1_finishAt_12 : decode cX1_finishAt 12 = .ok (.aload_n 0, 1) := by decide +kernel
theorem dX1_finishAt_13 : decode cX1_finishAt 13 = .ok (.aload_n 1, 1) := by decide +kernel
theorem dX1_finishAt_14 : decode cX1_finishAt 14 = .ok (.invokevirtual 127, 3) := by decide +kernel
theorem dX1_finishAt_17 : decode cX1_finishAt 17 = .ok (.ifCond .eq 16, 3) := by decide +kernel
theorem dX1_finishAt_20 : decode cX1_finishAt 20 = .ok (.aload_n 0, 1) := by decide +kernel
theorem dX1_finishAt_21 : decode cX1_finishAt 21 = .ok (.dup, 1) := by decide +kernel
theorem dX1_finishAt_22 : decode cX1_finishAt 22 = .ok (.getfield 54, 3) := by decide +kernel
theorem dX1_finishAt_25 : decode cX1_finishAt 25 = .ok (.iconst 1, 1) := by decide +kernel
theorem dX1_finishAt_26 : decode cX1_finishAt 26 = .ok (.iadd, 1) := by decide +kernel
theorem dX1_finishAt_27 : decode cX1_finishAt 27 = .ok (.putfield 54, 3) := by decide +kernel
theorem dX1_finishAt_30 : decode cX1_finishAt 30 = .ok (.goto 8, 3) := by decide +kernel
theorem dX1_finishAt_33 : decode cX1_finishAt 33 = .ok (.aload_n 1, 1) := by decide +kernel
theorem dX1_finishAt_34 : decode cX1_finishAt 34 = .ok (.iconst 1, 1) := by decide +kernel
theorem dX1_finishAt_35 : decode cX1_finishAt 35 = .ok (.putfield 96, 3) := by decide +kernel
theorem dX1_finishAt_38 : decode cX1_finishAt 38 = .ok (.return_, 1) := by decide +kernel
set_option maxRecDepth 20000 in
theorem ggX1_layOnCause_X1_last : GoodIn wsX1_layOnCause wsX1_last := goodIn_r _ [10, 11, 12, 13, 14, 9, 15, 16, 34, 35, 36, 37, 38, 39, 40, 41, 42] (by decide +kernel) (by decide +kernel)
set_option maxRecDepth 20000 in
theorem gX1_layOnCause_X1_last : GoodIn wsX1_layOnCause (wsV RX1 67 RX1 yX1_last wsX1_last) := goodIn_app (goodIn_of _ (by decide +kernel)) ggX1_layOnCause_X1_last
set_option maxRecDepth 20000 in
theorem ggX1_layOnCause_X6_within : GoodIn wsX1_layOnCause wsX6_within := goodIn_r _ [19] (by decide +kernel) (by decide +kernel)
set_option maxRecDepth 20000 in
theorem gX1_layOnCause_X6_within_n130 : GoodIn wsX1_layOnCause (wsX6_within) := ggX1_layOnCause_X6_within
theorem dX1_layOnCause_0 : decode cX1_layOnCause 0 = .ok (.aload_n 0, 1) := by decide +kernel
theorem dX1_layOnCause_1 : decode cX1_layOnCause 1 = .ok (.invokevirtual 67, 3) := by decide +kernel
theorem dX1_layOnCause_4 : decode cX1_layOnCause 4 = .ok (.astore_n 1, 1) := by decide +kernel
theorem dX1_layOnCause_5 : decode cX1_layOnCause 5 = .ok (.aload_n 1, 1) := by decide +kernel
theorem dX1_layOnCause_6 : decode cX1_layOnCause 6 = .ok (.ifnull 11, 3) := by decide +kernel
theorem dX1_layOnCause_9 : decode cX1_layOnCause 9 = .ok (.aload_n 1, 1) := by decide +kernel
theorem dX1_layOnCause_10 : decode cX1_layOnCause 10 = .ok (.getfield 75, 3) := by decide +kernel
theorem dX1_layOnCause_13 : decode cX1_layOnCause 13 = .ok (.iconst 3, 1) := by decide +kernel
theorem dX1_layOnCause_14 : decode cX1_layOnCause 14 = .ok (.if_icmp .ne 4, 3) := by decide +kernel
theorem dX1_layOnCause_17 : decode cX1_layOnCause 17 = .ok (.return_, 1) := by decide +kernel
theorem dX1_layOnCause_18 : decode cX1_layOnCause 18 = .ok (.aload_n 0, 1) := by decide +kernel
theorem dX1_layOnCause_19 : decode cX1_layOnCause 19 = .ok (.dup, 1) := by decide +kernel
theorem dX1_layOnCause_20 : decode cX1_layOnCause 20 = .ok (.getfield 57, 3) := by decide +kernel
theorem dX1_layOnCause_23 : decode cX1_layOnCause 23 = .ok (.iconst 1, 1) := by decide +kernel
theorem dX1_layOnCause_24 : decode cX1_layOnCause 24 = .ok (.iadd, 1) := by decide +kernel
theorem dX1_layOnCause_25 : decode cX1_layOnCause 25 = .ok (.putfield 57, 3) := by decide +kernel
theorem dX1_layOnCause_28 : decode cX1_layOnCause 28 = .ok (.aload_n 1, 1) := by decide +kernel
theorem dX1_layOnCause_29 : decode cX1_layOnCause 29 = .ok (.ifnull 19, 3) := by decide +kernel
theorem dX1_layOnCause_32 : decode cX1_layOnCause 32 = .ok (.aload_n 1, 1) := by decide +kernel
theorem dX1_layOnCause_33 : decode cX1_layOnCause 33 = .ok (.getfield 75, 3) := by decide +kernel
theorem dX1_layOnCause_36 : decode cX1_layOnCause 36 = .ok (.iconst 4, 1) := by decide +kernel
theorem dX1_layOnCause_37 : decode cX1_layOnCause 37 = .ok (.if_icmp .ne 11, 3) := by decide +kernel
theorem dX1_layOnCause_40 : decode cX1_layOnCause 40 = .ok (.aload_n 1, 1) := by decide +kernel
theorem dX1_layOnCause_41 : decode cX1_layOnCause 41 = .ok (.getfield 81, 3) := by decide +kernel
theorem dX1_layOnCause_44 : decode cX1_layOnCause 44 = .ok (.astore_n 1, 1) := by decide +kernel
theorem dX1_layOnCause_45 : decode cX1_layOnCause 45 = .ok (.goto (-17), 3) := by decide +kernel
theorem dX1_layOnCause_48 : decode cX1_layOnCause 48 = .ok (.aload_n 1, 1) := by decide +kernel
theorem dX1_layOnCause_49 : decode cX1_layOnCause 49 = .ok (.ifnonnull 17, 3) := by decide +kernel
theorem dX1_layOnCause_52 : decode cX1_layOnCause 52 = .ok (.aload_n 0, 1) := by decide +kernel
theorem dX1_layOnCause_53 : decode cX1_layOnCause 53 = .ok (.getfield 22, 3) := by decide +kernel
theorem dX1_layOnCause_56 : decode cX1_layOnCause 56 = .ok (.bipush 7, 2) := by decide +kernel
theorem dX1_layOnCause_58 : decode cX1_layOnCause 58 = .ok (.dup2, 1) := by decide +kernel
theorem dX1_layOnCause_59 : decode cX1_layOnCause 59 = .ok (.iaload, 1) := by decide +kernel
theorem dX1_layOnCause_60 : decode cX1_layOnCause 60 = .ok (.iconst 1, 1) := by decide +kernel
theorem dX1_layOnCause_61 : decode cX1_layOnCause 61 = .ok (.iadd, 1) := by decide +kernel
theorem dX1_layOnCause_62 : decode cX1_layOnCause 62 = .ok (.iastore, 1) := by decide +kernel
theorem dX1_layOnCause_63 : decode cX1_layOnCause 63 = .ok (.goto 50, 3) := by decide +kernel
theorem dX1_layOnCause_66 : decode cX1_layOnCause 66 = .ok (.aload_n 1, 1) := by decide +kernel
theorem dX1_layOnCause_67 : decode cX1_layOnCause 67 = .ok (.getfield 75, 3) := by decide +kernel
theorem dX1_layOnCause_70 : decode cX1_layOnCause 70 = .ok (.iconst 3, 1) := by decide +kernel
theorem dX1_layOnCause_71 : decode cX1_layOnCause 71 = .ok (.if_icmp .ne 17, 3) := by decide +kernel
theorem dX1_layOnCause_74 : decode cX1_layOnCause 74 = .ok (.aload_n 0, 1) := by decide +kernel
theorem dX1_layOnCause_75 : decode cX1_layOnCause 75 = .ok (.getfield 22, 3) := by decide +kernel
theorem dX1_layOnCause_78 : decode cX1_layOnCause 78 = .ok (.bipush 6, 2) := by decide +kernel
theorem dX1_layOnCause_80 : decode cX1_layOnCause 80 = .ok (.dup2, 1) := by decide +kernel
theorem dX1_layOnCause_81 : decode cX1_layOnCause 81 = .ok (.iaload, 1) := by decide +kernel
theorem dX1_layOnCause_82 : decode cX1_layOnCause 82 = .ok (.iconst 1, 1) := by decide +kernel
theorem dX1_layOnCause_83 : decode cX1_layOnCause 83 = .ok (.iadd, 1) := by decide +kernel
theorem dX1_layOnCause_84 : decode cX1_layOnCause 84 = .ok (.iastore, 1) := by decide +kernel
theorem dX1_layOnCause_85 : decode cX1_layOnCause 85 = .ok (.goto 28, 3) := by decide +kernel
theorem dX1_layOnCause_88 : decode cX1_layOnCause 88 = .ok (.aload_n 1, 1) := by decide +kernel
theorem dX1_layOnCause_89 : decode cX1_layOnCause 89 = .ok (.getfield 60, 3) := by decide +kernel
theorem dX1_layOnCause_92 : decode cX1_layOnCause 92 = .ok (.iconst 0, 1) := by decide +kernel
theorem dX1_layOnCause_93 : decode cX1_layOnCause 93 = .ok (.iconst 5, 1) := by decide +kernel
theorem dX1_layOnCause_94 : decode cX1_layOnCause 94 = .ok (.invokestatic 130, 3) := by decide +kernel
theorem dX1_layOnCause_97 : decode cX1_layOnCause 97 = .ok (.ifCond .eq 16, 3) := by decide +kernel
theorem dX1_layOnCause_100 : decode cX1_layOnCause 100 = .ok (.aload_n 0, 1) := by decide +kernel
theorem dX1_layOnCause_101 : decode cX1_layOnCause 101 = .ok (.getfield 22, 3) := by decide +kernel
theorem dX1_layOnCause_104 : decode cX1_layOnCause 104 = .ok (.aload_n 1, 1) := by decide +kernel
theorem dX1_layOnCause_105 : decode cX1_layOnCause 105 = .ok (.getfield 60, 3) := by decide +kernel
theorem dX1_layOnCause_108 : decode cX1_layOnCause 108 = .ok (.dup2, 1) := by decide +kernel
theorem dX1_layOnCause_109 : decode cX1_layOnCause 109 = .ok (.iaload, 1) := by decide +kernel
theorem dX1_layOnCause_110 : decode cX1_layOnCause 110 = .ok (.iconst 1, 1) := by decide +kernel
theorem dX1_layOnCause_111 : decode cX1_layOnCause 111 = .ok (.iadd, 1) := by decide +kernel
theorem dX1_layOnCause_112 : decode cX1_layOnCause 112 = .ok (.iastore, 1) := by decide +kernel
theorem dX1_layOnCause_113 : decode cX1_layOnCause 113 = .ok (.return_, 1) := by decide +kernel
set_option maxRecDepth 20000 in
theorem ggX1_allRejected_X1_last : GoodIn wsX1_allRejected wsX1_last := goodIn_r _ [7, 8, 9, 10, 11, 6, 12, 13, 28, 29, 30, 31, 32, 33, 34, 35, 36] (by decide +kernel) (by decide +kernel)
set_option maxRecDepth 20000 in
theorem gX1_allRejected_X1_last : GoodIn wsX1_allRejected (wsV RX1 67 RX1 yX1_last wsX1_last) := goodIn_app (goodIn_of _ (by decide +kernel)) ggX1_allRejected_X1_last
theorem dX1_allRejected_0 : decode cX1_allRejected 0 = .ok (.iconst 0, 1) := by decide +kernel
theorem dX1_allRejected_1 : decode cX1_allRejected 1 = .ok (.istore_n 1, 1) := by decide +kernel
theorem dX1_allRejected_2 : decode cX1_allRejected 2 = .ok (.aload_n 0, 1) := by decide +kernel
theorem dX1_allRejected_3 : decode cX1_allRejected 3 = .ok (.invokevirtual 67, 3) := by decide +kernel
theorem dX1_allRejected_6 : decode cX1_allRejected 6 = .ok (.astore_n 2, 1) := by decide +kernel
theorem dX1_allRejected_7 : decode cX1_allRejected 7 = .ok (.aload_n 2, 1) := by decide +kernel
theorem dX1_allRejected_8 : decode cX1_allRejected 8 = .ok (.ifnull 18, 3) := by decide +kernel
theorem dX1_allRejected_11 : decode cX1_allRejected 11 = .ok (.iload_n 1, 1) := by decide +kernel
theorem dX1_allRejected_12 : decode cX1_allRejected 12 = .ok (.aload_n 2, 1) := by decide +kernel
theorem dX1_allRejected_13 : decode cX1_allRejected 13 = .ok (.getfield 136, 3) := by decide +kernel
theorem dX1_allRejected_16 : decode cX1_allRejected 16 = .ok (.iadd, 1) := by decide +kernel
theorem dX1_allRejected_17 : decode cX1_allRejected 17 = .ok (.istore_n 1, 1) := by decide +kernel
theorem dX1_allRejected_18 : decode cX1_allRejected 18 = .ok (.aload_n 2, 1) := by decide +kernel
theorem dX1_allRejected_19 : decode cX1_allRejected 19 = .ok (.getfield 81, 3) := by decide +kernel
theorem dX1_allRejected_22 : decode cX1_allRejected 22 = .ok (.astore_n 2, 1) := by decide +kernel
theorem dX1_allRejected_23 : decode cX1_allRejected 23 = .ok (.goto (-16), 3) := by decide +kernel
theorem dX1_allRejected_26 : decode cX1_allRejected 26 = .ok (.iload_n 1, 1) := by decide +kernel
theorem dX1_allRejected_27 : decode cX1_allRejected 27 = .ok (.ireturn, 1) := by decide +kernel
set_option maxRecDepth 20000 in
theorem ggX1_allSampled_X1_last : GoodIn wsX1_allSampled wsX1_last := goodIn_r _ [7, 8, 9, 10, 11, 6, 12, 13, 28, 29, 30, 31, 32, 33, 34, 35, 36] (by decide +kernel) (by decide +kernel)
set_option maxRecDepth 20000 in
theorem gX1_allSampled_X1_last : GoodIn wsX1_allSampled (wsV RX1 67 RX1 yX1_last wsX1_last) := goodIn_app (goodIn_of _ (by decide +kernel)) ggX1_allSampled_X1_last
theorem dX1_allSampled_0 : decode cX1_allSampled 0 = .ok (.iconst 0, 1) := by decide +kernel
theorem dX1_allSampled_1 : decode cX1_allSampled 1 = .ok (.istore_n 1, 1) := by decide +kernel
theorem dX1_allSampled_2 : decode cX1_allSampled 2 = .ok (.aload_n 0, 1) := by decide +kernel
theorem dX1_allSampled_3 : decode cX1_allSampled 3 = .ok (.invokevirtual 67, 3) := by decide +kernel
theorem dX1_allSampled_6 : decode cX1_allSampled 6 = .ok (.astore_n 2, 1) := by decide +kernel
theorem dX1_allSampled_7 : decode cX1_allSampled 7 = .ok (.aload_n 2, 1) := by decide +kernel
theorem dX1_allSampled_8 : decode cX1_allSampled 8 = .ok (.ifnull 18, 3) := by decide +kernel
theorem dX1_allSampled_11 : decode cX1_allSampled 11 = .ok (.iload_n 1, 1) := by decide +kernel
theorem dX1_allSampled_12 : decode cX1_allSampled 12 = .ok (.aload_n 2, 1) := by decide +kernel
theorem dX1_allSampled_13 : decode cX1_allSampled 13 = .ok (.getfield 139, 3) := by decide +kernel
theorem dX1_allSampled_16 : decode cX1_allSampled 16 = .ok (.iadd, 1) := by decide +kernel
theorem dX1_allSampled_17 : decode cX1_allSampled 17 = .ok (.istore_n 1, 1) := by decide +kernel
theorem dX1_allSampled_18 : decode cX1_allSampled 18 = .ok (.aload_n 2, 1) := by decide +kernel
theorem dX1_allSampled_19 : decode cX1_allSampled 19 = .ok (.getfield 81, 3) := by decide +kernel
theorem dX1_allSampled_22 : decode cX1_allSampled 22 = .ok (.astore_n 2, 1) := by decide +kernel
theorem dX1_allSampled_23 : decode cX1_allSampled 23 = .ok (.goto (-16), 3) := by decide +kernel
theorem dX1_allSampled_26 : decode cX1_allSampled 26 = .ok (.iload_n 1, 1) := by decide +kernel
theorem dX1_allSampled_27 : decode cX1_allSampled 27 = .ok (.ireturn, 1) := by decide +kernel
set_option maxRecDepth 20000 in
theorem ggX1_allOnLine_X1_last : GoodIn wsX1_allOnLine wsX1_last := goodIn_r _ [7, 8, 9, 10, 11, 6, 12, 13, 35, 36, 37, 38, 39, 40, 41, 42, 43] (by decide +kernel) (by decide +kernel)
set_option maxRecDepth 20000 in
theorem gX1_allOnLine_X1_last : GoodIn wsX1_allOnLine (wsV RX1 67 RX1 yX1_last wsX1_last) := goodIn_app (goodIn_of _ (by decide +kernel)) ggX1_allOnLine_X1_last
set_option maxRecDepth 20000 in
theorem ggX1_allOnLine_X3_unitsInside : GoodIn wsX1_allOnLine wsX3_unitsInside := goodIn_r _ [18, 19, 20, 21, 22, 23, 24, 25, 26, 27, 28, 29, 30, 31, 32, 33, 34] (by decide +kernel) (by decide +kernel)
set_option maxRecDepth 20000 in
theorem gX1_allOnLine_X3_unitsInside : GoodIn wsX1_allOnLine (wsV RX1 142 RX3 yX3_unitsInside wsX3_unitsInside) := goodIn_app (goodIn_of _ (by decide +kernel)) ggX1_allOnLine_X3_unitsInside
theorem dX1_allOnLine_0 : decode cX1_allOnLine 0 = .ok (.iconst 0, 1) := by decide +kernel
theorem dX1_allOnLine_1 : decode cX1_allOnLine 1 = .ok (.istore_n 1, 1) := by decide +kernel
theorem dX1_allOnLine_2 : decode cX1_allOnLine 2 = .ok (.aload_n 0, 1) := by decide +kernel
theorem dX1_allOnLine_3 : decode cX1_allOnLine 3 = .ok (.invokevirtual 67, 3) := by decide +kernel
theorem dX1_allOnLine_6 : decode cX1_allOnLine 6 = .ok (.astore_n 2, 1) := by decide +kernel
theorem dX1_allOnLine_7 : decode cX1_allOnLine 7 = .ok (.aload_n 2, 1) := by decide +kernel
theorem dX1_allOnLine_8 : decode cX1_allOnLine 8 = .ok (.ifnull 23, 3) := by decide +kernel
theorem dX1_allOnLine_11 : decode cX1_allOnLine 11 = .ok (.iload_n 1, 1) := by decide +kernel
theorem dX1_allOnLine_12 : decode cX1_allOnLine 12 = .ok (.aload_n 2, 1) := by decide +kernel
theorem dX1_allOnLine_13 : decode cX1_allOnLine 13 = .ok (.invokevirtual 142, 3) := by decide +kernel
theorem dX1_allOnLine_16 : decode cX1_allOnLine 16 = .ok (.aload_n 2, 1) := by decide +kernel
theorem dX1_allOnLine_17 : decode cX1_allOnLine 17 = .ok (.getfield 121, 3) := by decide +kernel
theorem dX1_allOnLine_20 : decode cX1_allOnLine 20 = .ok (.iadd, 1) := by decide +kernel
theorem dX1_allOnLine_21 : decode cX1_allOnLine 21 = .ok (.iadd, 1) := by decide +kernel
theorem dX1_allOnLine_22 : decode cX1_allOnLine 22 = .ok (.istore_n 1, 1) := by decide +kernel
theorem dX1_allOnLine_23 : decode cX1_allOnLine 23 = .ok (.aload_n 2, 1) := by decide +kernel
theorem dX1_allOnLine_24 : decode cX1_allOnLine 24 = .ok (.getfield 81, 3) := by decide +kernel
theorem dX1_allOnLine_27 : decode cX1_allOnLine 27 = .ok (.astore_n 2, 1) := by decide +kernel
theorem dX1_allOnLine_28 : decode cX1_allOnLine 28 = .ok (.goto (-21), 3) := by decide +kernel
theorem dX1_allOnLine_31 : decode cX1_allOnLine 31 = .ok (.iload_n 1, 1) := by decide +kernel
theorem dX1_allOnLine_32 : decode cX1_allOnLine 32 = .ok (.ireturn, 1) := by decide +kernel
theorem dX2_init_0 : decode cX2_init 0 = .ok (.aload_n 0, 1) := by decide +kernel
theorem dX2_init_1 : decode cX2_init 1 = .ok (.invokespecial 3, 3) := by decide +kernel
theorem dX2_init_4 : decode cX2_init 4 = .ok (.aload_n 0, 1) := by decide +kernel
theorem dX2_init_5 : decode cX2_init 5 = .ok (.bipush 8, 2) := by decide +kernel
theorem dX2_init_7 : decode cX2_init 7 = .ok (.newarray .int, 2) := by decide +kernel
theorem dX2_init_9 : decode cX2_init 9 = .ok (.putfield 11, 3) := by decide +kernel
theorem dX2_init_12 : decode cX2_init 12 = .ok (.aload_n 0, 1) := by decide +kernel
theorem dX2_init_13 : decode cX2_init 13 = .ok (.bipush 8, 2) := by decide +kernel
theorem dX2_init_15 : decode cX2_init 15 = .ok (.newarray .int, 2) := by decide +kernel
theorem dX2_init_17 : decode cX2_init 17 = .ok (.putfield 15, 3) := by decide +kernel
theorem dX2_init_20 : decode cX2_init 20 = .ok (.aload_n 0, 1) := by decide +kernel
theorem dX2_init_21 : decode cX2_init 21 = .ok (.bipush 8, 2) := by decide +kernel
theorem dX2_init_23 : decode cX2_init 23 = .ok (.newarray .int, 2) := by decide +kernel
theorem dX2_init_25 : decode cX2_init 25 = .ok (.putfield 18, 3) := by decide +kernel
theorem dX2_init_28 : decode cX2_init 28 = .ok (.return_, 1) := by decide +kernel
theorem dX2_clear_0 : decode cX2_clear 0 = .ok (.aload_n 0, 1) := by decide +kernel
theorem dX2_clear_1 : decode cX2_clear 1 = .ok (.iconst 0, 1) := by decide +kernel
theorem dX2_clear_2 : decode cX2_clear 2 = .ok (.putfield 21, 3) := by decide +kernel
theorem dX2_clear_5 : decode cX2_clear 5 = .ok (.return_, 1) := by decide +kernel
theorem dX2_add_0 : decode cX2_add 0 = .ok (.aload_n 0, 1) := by decide +kernel
theorem dX2_add_1 : decode cX2_add 1 = .ok (.getfield 21, 3) := by decide +kernel
theorem dX2_add_4 : decode cX2_add 4 = .ok (.bipush 8, 2) := by decide +kernel
theorem dX2_add_6 : decode cX2_add 6 = .ok (.if_icmp .lt 6, 3) := by decide +kernel
theorem dX2_add_9 : decode cX2_add 9 = .ok (.bipush (-3), 2) := by decide +kernel
theorem dX2_add_11 : decode cX2_add 11 = .ok (.ireturn, 1) := by decide +kernel
theorem dX2_add_12 : decode cX2_add 12 = .ok (.aload_n 0, 1) := by decide +kernel
theorem dX2_add_13 : decode cX2_add 13 = .ok (.getfield 11, 3) := by decide +kernel
theorem dX2_add_16 : decode cX2_add 16 = .ok (.aload_n 0, 1) := by decide +kernel
theorem dX2_add_17 : decode cX2_add 17 = .ok (.getfield 21, 3) := by decide +kernel
theorem dX2_add_20 : decode cX2_add 20 = .ok (.iload_n 1, 1) := by decide +kernel
theorem dX2_add_21 : decode cX2_add 21 = .ok (.iastore, 1) := by decide +kernel
theorem dX2_add_22 : decode cX2_add 22 = .ok (.aload_n 0, 1) := by decide +kernel
theorem dX2_add_23 : decode cX2_add 23 = .ok (.getfield 15, 3) := by decide +kernel
theorem dX2_add_26 : decode cX2_add 26 = .ok (.aload_n 0, 1) := by decide +kernel
theorem dX2_add_27 : decode cX2_add 27 = .ok (.getfield 21, 3) := by decide +kernel
theorem dX2_add_30 : decode cX2_add 30 = .ok (.iload_n 2, 1) := by decide +kernel
theorem dX2_add_31 : decode cX2_add 31 = .ok (.iastore, 1) := by decide +kernel
theorem dX2_add_32 : decode cX2_add 32 = .ok (.aload_n 0, 1) := by decide +kernel
theorem dX2_add_33 : decode cX2_add 33 = .ok (.getfield 18, 3) := by decide +kernel
theorem dX2_add_36 : decode cX2_add 36 = .ok (.aload_n 0, 1) := by decide +kernel
theorem dX2_add_37 : decode cX2_add 37 = .ok (.getfield 21, 3) := by decide +kernel
theorem dX2_add_40 : decode cX2_add 40 = .ok (.iload_n 3, 1) := by decide +kernel
theorem dX2_add_41 : decode cX2_add 41 = .ok (.iastore, 1) := by decide +kernel
theorem dX2_add_42 : decode cX2_add 42 = .ok (.aload_n 0, 1) := by decide +kernel
theorem dX2_add_43 : decode cX2_add 43 = .ok (.dup, 1) := by decide +kernel
theorem dX2_add_44 : decode cX2_add 44 = .ok (.getfield 21, 3) := by decide +kernel
theorem dX2_add_47 : decode cX2_add 47 = .ok (.iconst 1, 1) := by decide +kernel
theorem dX2_add_48 : decode cX2_add 48 = .ok (.iadd, 1) := by decide +kernel
theorem dX2_add_49 : decode cX2_add 49 = .ok (.putfield 21, 3) := by decide +kernel
theorem dX2_add_52 : decode cX2_add 52 = .ok (.aload_n 0, 1) := by decide +kernel
theorem dX2_add_53 : decode cX2_add 53 = .ok (.getfield 21, 3) := by decide +kernel
theorem dX2_add_56 : decode cX2_add 56 = .ok (.ireturn, 1) := by decide +kernel
set_option maxRecDepth 20000 in
theorem ggX2_stop_X6_within : GoodIn wsX2_stop wsX6_within := goodIn_r _ [7] (by decide +kernel) (by decide +kernel)
set_option maxRecDepth 20000 in
theorem gX2_stop_X6_within_n25 : GoodIn wsX2_stop (wsX6_within) := ggX2_stop_X6_within
theorem dX2_stop_0 : decode cX2_stop 0 = .ok (.iconst 0, 1) := by decide +kernel
theorem dX2_stop_1 : decode cX2_stop 1 = .ok (.istore_n 3, 1) := by decide +kernel
theorem dX2_stop_2 : decode cX2_stop 2 = .ok (.iload_n 3, 1) := by decide +kernel
theorem dX2_stop_3 : decode cX2_stop 3 = .ok (.aload_n 0, 1) := by decide +kernel
theorem dX2_stop_4 : decode cX2_stop 4 = .ok (.getfield 21, 3) := by decide +kernel
theorem dX2_stop_7 : decode cX2_stop 7 = .ok (.if_icmp .ge 40, 3) := by decide +kernel
theorem dX2_stop_10 : decode cX2_stop 10 = .ok (.aload_n 0, 1) := by decide +kernel
theorem dX2_stop_11 : decode cX2_stop 11 = .ok (.getfield 11, 3) := by decide +kernel
theorem dX2_stop_14 : decode cX2_stop 14 = .ok (.iload_n 3, 1) := by decide +kernel
theorem dX2_stop_15 : decode cX2_stop 15 = .ok (.iaload, 1) := by decide +kernel
theorem dX2_stop_16 : decode cX2_stop 16 = .ok (.iload_n 1, 1) := by decide +kernel
theorem dX2_stop_17 : decode cX2_stop 17 = .ok (.if_icmp .ne 24, 3) := by decide +kernel
theorem dX2_stop_20 : decode cX2_stop 20 = .ok (.iload_n 2, 1) := by decide +kernel
theorem dX2_stop_21 : decode cX2_stop 21 = .ok (.aload_n 0, 1) := by decide +kernel
theorem dX2_stop_22 : decode cX2_stop 22 = .ok (.getfield 15, 3) := by decide +kernel
theorem dX2_stop_25 : decode cX2_stop 25 = .ok (.iload_n 3, 1) := by decide +kernel
theorem dX2_stop_26 : decode cX2_stop 26 = .ok (.iaload, 1) := by decide +kernel
theorem dX2_stop_27 : decode cX2_stop 27 = .ok (.aload_n 0, 1) := by decide +kernel
theorem dX2_stop_28 : decode cX2_stop 28 = .ok (.getfield 18, 3) := by decide +kernel
theorem dX2_stop_31 : decode cX2_stop 31 = .ok (.iload_n 3, 1) := by decide +kernel
theorem dX2_stop_32 : decode cX2_stop 32 = .ok (.iaload, 1) := by decide +kernel
theorem dX2_stop_33 : decode cX2_stop 33 = .ok (.invokestatic 25, 3) := by decide +kernel
theorem dX2_stop_36 : decode cX2_stop 36 = .ok (.ifCond .eq 5, 3) := by decide +kernel
theorem dX2_stop_39 : decode cX2_stop 39 = .ok (.iconst 1, 1) := by decide +kernel
theorem dX2_stop_40 : decode cX2_stop 40 = .ok (.ireturn, 1) := by decide +kernel
theorem dX2_stop_41 : decode cX2_stop 41 = .ok (.iinc 3 1, 3) := by decide +kernel
theorem dX2_stop_44 : decode cX2_stop 44 = .ok (.goto (-42), 3) := by decide +kernel
theorem dX2_stop_47 : decode cX2_stop 47 = .ok (.iconst 0, 1) := by decide +kernel
theorem dX2_stop_48 : decode cX2_stop 48 = .ok (.ireturn, 1) := by decide +kernel
set_option maxRecDepth 20000 in
theorem ggX3_init_X3_renew : GoodIn wsX3_init wsX3_renew := goodIn_r _ [12, 13, 5, 14, 15, 16, 17, 18, 19, 20, 21, 22, 23, 24, 25, 26, 27, 28, 29, 30, 31, 32, 33, 34, 35, 36, 37, 38, 39, 40, 41, 42] (by decide +kernel) (by decide +kernel)
set_option maxRecDepth 20000 in
theorem gX3_init_X3_renew : GoodIn wsX3_init (wsV RX3 23 RX3 yX3_renew wsX3_renew) := goodIn_app (goodIn_of _ (by decide +kernel)) ggX3_init_X3_renew
theorem dX3_init_0 : decode cX3_init 0 = .ok (.aload_n 0, 1) := by decide +kernel
theorem dX3_init_1 : decode cX3_init 1 = .ok (.invokespecial 3, 3) := by decide +kernel
theorem dX3_init_4 : decode cX3_init 4 = .ok (.aload_n 0, 1) := by decide +kernel
theorem dX3_init_5 : decode cX3_init 5 = .ok (.iconst 4, 1) := by decide +kernel
theorem dX3_init_6 : decode cX3_init 6 = .ok (.newarray .int, 2) := by decide +kernel
theorem dX3_init_8 : decode cX3_init 8 = .ok (.putfield 11, 3) := by decide +kernel
theorem dX3_init_11 : decode cX3_init 11 = .ok (.aload_n 0, 1) := by decide +kernel
theorem dX3_init_12 : decode cX3_init 12 = .ok (.iload_n 1, 1) := by decide +kernel
theorem dX3_init_13 : decode cX3_init 13 = .ok (.putfield 15, 3) := by decide +kernel
theorem dX3_init_16 : decode cX3_init 16 = .ok (.aload_n 0, 1) := by decide +kernel
theorem dX3_init_17 : decode cX3_init 17 = .ok (.aload_n 2, 1) := by decide +kernel
theorem dX3_init_18 : decode cX3_init 18 = .ok (.putfield 19, 3) := by decide +kernel
theorem dX3_init_21 : decode cX3_init 21 = .ok (.aload_n 0, 1) := by decide +kernel
theorem dX3_init_22 : decode cX3_init 22 = .ok (.invokevirtual 23, 3) := by decide +kernel
theorem dX3_init_25 : decode cX3_init 25 = .ok (.return_, 1) := by decide +kernel
theorem dX3_renew_0 : decode cX3_renew 0 = .ok (.getstatic 26, 3) := by decide +kernel
theorem dX3_renew_3 : decode cX3_renew 3 = .ok (.iconst 0, 1) := by decide +kernel
theorem dX3_renew_4 : decode cX3_renew 4 = .ok (.aload_n 0, 1) := by decide +kernel
theorem dX3_renew_5 : decode cX3_renew 5 = .ok (.getfield 11, 3) := by decide +kernel
theorem dX3_renew_8 : decode cX3_renew 8 = .ok (.iconst 0, 1) := by decide +kernel
theorem dX3_renew_9 : decode cX3_renew 9 = .ok (.iconst 4, 1) := by decide +kernel
theorem dX3_renew_10 : decode cX3_renew 10 = .ok (.invokestatic 29, 3) := by decide +kernel
theorem dX3_renew_13 : decode cX3_renew 13 = .ok (.aload_n 0, 1) := by decide +kernel
theorem dX3_renew_14 : decode cX3_renew 14 = .ok (.iconst 0, 1) := by decide +kernel
theorem dX3_renew_15 : decode cX3_renew 15 = .ok (.putfield 35, 3) := by decide +kernel
theorem dX3_renew_18 : decode cX3_renew 18 = .ok (.aload_n 0, 1) := by decide +kernel
theorem dX3_renew_19 : decode cX3_renew 19 = .ok (.iconst 0, 1) := by decide +kernel
theorem dX3_renew_20 : decode cX3_renew 20 = .ok (.putfield 38, 3) := by decide +kernel
theorem dX3_renew_23 : decode cX3_renew 23 = .ok (.aload_n 0, 1) := by decide +kernel
theorem dX3_renew_24 : decode cX3_renew 24 = .ok (.iconst 0, 1) := by decide +kernel
theorem dX3_renew_25 : decode cX3_renew 25 = .ok (.putfield 42, 3) := by decide +kernel
theorem dX3_renew_28 : decode cX3_renew 28 = .ok (.aload_n 0, 1) := by decide +kernel
theorem dX3_renew_29 : decode cX3_renew 29 = .ok (.iconst 0, 1) := by decide +kernel
theorem dX3_renew_30 : decode cX3_renew 30 = .ok (.putfield 45, 3) := by decide +kernel
theorem dX3_renew_33 : decode cX3_renew 33 = .ok (.aload_n 0, 1) := by decide +kernel
theorem dX3_renew_34 : decode cX3_renew 34 = .ok (.iconst 0, 1) := by decide +kernel
theorem dX3_renew_35 : decode cX3_renew 35 = .ok (.putfield 48, 3) := by decide +kernel
theorem dX3_renew_38 : decode cX3_renew 38 = .ok (.aload_n 0, 1) := by decide +kernel
theorem dX3_renew_39 : decode cX3_renew 39 = .ok (.iconst 0, 1) := by decide +kernel
theorem dX3_renew_40 : decode cX3_renew 40 = .ok (.putfield 51, 3) := by decide +kernel
theorem dX3_renew_43 : decode cX3_renew 43 = .ok (.aload_n 0, 1) := by decide +kernel
theorem dX3_renew_44 : decode cX3_renew 44 = .ok (.iconst 0, 1) := by decide +kernel
theorem dX3_renew_45 : decode cX3_renew 45 = .ok (.putfield 54, 3) := by decide +kernel
theorem dX3_renew_48 : decode cX3_renew 48 = .ok (.aload_n 0, 1) := by decide +kernel
theorem dX3_renew_49 : decode cX3_renew 49 = .ok (.iconst 0, 1) := by decide +kernel
theorem dX3_renew_50 : decode cX3_renew 50 = .ok (.putfield 57, 3) := by decide +kernel
theorem dX3_renew_53 : decode cX3_renew 53 = .ok (.aload_n 0, 1) := by decide +kernel
theorem dX3_renew_54 : decode cX3_renew 54 = .ok (.iconst 0, 1) := by decide +kernel
theorem dX3_renew_55 : decode cX3_renew 55 = .ok (.putfield 60, 3) := by decide +kernel
theorem dX3_renew_58 : decode cX3_renew 58 = .ok (.aload_n 0, 1) := by decide +kernel
theorem dX3_renew_59 : decode cX3_renew 59 = .ok (.bipush (-4), 2) := by decide +kernel
theorem dX3_renew_61 : decode cX3_renew 61 = .ok (.putfield 63, 3) := by decide +kernel
theorem dX3_renew_64 : decode cX3_renew 64 = .ok (.aload_n 0, 1) := by decide +kernel
theorem dX3_renew_65 : decode cX3_renew 65 = .ok (.iconst 0, 1) := by decide +kernel
theorem dX3_renew_66 : decode cX3_renew 66 = .ok (.putfield 66, 3) := by decide +kernel
theorem dX3_renew_69 : decode cX3_renew 69 = .ok (.return_, 1) := by decide +kernel
set_option maxRecDepth 20000 in
theorem ggX3_mayBeSet_X6_within : GoodIn wsX3_mayBeSet wsX6_within := goodIn_r _ [5] (by decide +kernel) (by decide +kernel)
set_option maxRecDepth 20000 in
theorem gX3_mayBeSet_X6_within_n69 : GoodIn wsX3_mayBeSet (wsX6_within) := ggX3_mayBeSet_X6_within
theorem dX3_mayBeSet_0 : decode cX3_mayBeSet 0 = .ok (.iload_n 1, 1) := by decide +kernel
theorem dX3_mayBeSet_1 : decode cX3_mayBeSet 1 = .ok (.iconst 0, 1) := by decide +kernel
theorem dX3_mayBeSet_2 : decode cX3_mayBeSet 2 = .ok (.iconst 3, 1) := by decide +kernel
theorem dX3_mayBeSet_3 : decode cX3_mayBeSet 3 = .ok (.invokestatic 69, 3) := by decide +kernel
theorem dX3_mayBeSet_6 : decode cX3_mayBeSet 6 = .ok (.ifCond .eq 24, 3) := by decide +kernel
theorem dX3_mayBeSet_9 : decode cX3_mayBeSet 9 = .ok (.iload_n 2, 1) := by decide +kernel
theorem dX3_mayBeSet_10 : decode cX3_mayBeSet 10 = .ok (.getstatic 73, 3) := by decide +kernel
theorem dX3_mayBeSet_13 : decode cX3_mayBeSet 13 = .ok (.iload_n 1, 1) := by decide +kernel
theorem dX3_mayBeSet_14 : decode cX3_mayBeSet 14 = .ok (.iaload, 1) := by decide +kernel
theorem dX3_mayBeSet_15 : decode cX3_mayBeSet 15 = .ok (.getstatic 76, 3) := by decide +kernel
theorem dX3_mayBeSet_18 : decode cX3_mayBeSet 18 = .ok (.iload_n 1, 1) := by decide +kernel
theorem dX3_mayBeSet_19 : decode cX3_mayBeSet 19 = .ok (.iaload, 1) := by decide +kernel
theorem dX3_mayBeSet_20 : decode cX3_mayBeSet 20 = .ok (.invokestatic 69, 3) := by decide +kernel
theorem dX3_mayBeSet_23 : decode cX3_mayBeSet 23 = .ok (.ifCond .eq 7, 3) := by decide +kernel
theorem dX3_mayBeSet_26 : decode cX3_mayBeSet 26 = .ok (.iconst 1, 1) := by decide +kernel
theorem dX3_mayBeSet_27 : decode cX3_mayBeSet 27 = .ok (.goto 4, 3) := by decide +kernel
theorem dX3_mayBeSet_30 : decode cX3_mayBeSet 30 = .ok (.iconst 0, 1) := by decide +kernel
theorem dX3_mayBeSet_31 : decode cX3_mayBeSet 31 = .ok (.ireturn, 1) := by decide +kernel
set_option maxRecDepth 20000 in
theorem ggX3_put_X3_mayBeSet : GoodIn wsX3_put wsX3_mayBeSet := goodIn_r _ [6, 7, 8, 9, 10, 11] (by decide +kernel) (by decide +kernel)
set_option maxRecDepth 20000 in
theorem gX3_put_X3_mayBeSet : GoodIn wsX3_put (wsV RX3 79 RX3 yX3_mayBeSet wsX3_mayBeSet) := goodIn_app (goodIn_of _ (by decide +kernel)) ggX3_put_X3_mayBeSet
theorem dX3_put_0 : decode cX3_put 0 = .ok (.aload_n 0, 1) := by decide +kernel
theorem dX3_put_1 : decode cX3_put 1 = .ok (.iload_n 1, 1) := by decide +kernel
theorem dX3_put_2 : decode cX3_put 2 = .ok (.iload_n 2, 1) := by decide +kernel
theorem dX3_put_3 : decode cX3_put 3 = .ok (.invokevirtual 79, 3) := by decide +kernel
theorem dX3_put_6 : decode cX3_put 6 = .ok (.ifCond .ne 5, 3) := by decide +kernel
theorem dX3_put_9 : decode cX3_put 9 = .ok (.iconst (-1), 1) := by decide +kernel
theorem dX3_put_10 : decode cX3_put 10 = .ok (.ireturn, 1) := by decide +kernel
theorem dX3_put_11 : decode cX3_put 11 = .ok (.aload_n 0, 1) := by decide +kernel
theorem dX3_put_12 : decode cX3_put 12 = .ok (.getfield 11, 3) := by decide +kernel
theorem dX3_put_15 : decode cX3_put 15 = .ok (.iload_n 1, 1) := by decide +kernel
theorem dX3_put_16 : decode cX3_put 16 = .ok (.iaload, 1) := by decide +kernel
theorem dX3_put_17 : decode cX3_put 17 = .ok (.istore_n 3, 1) := by decide +kernel
theorem dX3_put_18 : decode cX3_put 18 = .ok (.aload_n 0, 1) := by decide +kernel
theorem dX3_put_19 : decode cX3_put 19 = .ok (.getfield 11, 3) := by decide +kernel
theorem dX3_put_22 : decode cX3_put 22 = .ok (.iload_n 1, 1) := by decide +kernel
theorem dX3_put_23 : decode cX3_put 23 = .ok (.iload_n 2, 1) := by decide +kernel
theorem dX3_put_24 : decode cX3_put 24 = .ok (.iastore, 1) := by decide +kernel
theorem dX3_put_25 : decode cX3_put 25 = .ok (.iload_n 3, 1) := by decide +kernel
theorem dX3_put_26 : decode cX3_put 26 = .ok (.ireturn, 1) := by decide +kernel
theorem dX3_unitsInside_0 : decode cX3_unitsInside 0 = .ok (.aload_n 0, 1) := by decide +kernel
theorem dX3_unitsInside_1 : decode cX3_unitsInside 1 = .ok (.getfield 38, 3) := by decide +kernel
theorem dX3_unitsInside_4 : decode cX3_unitsInside 4 = .ok (.ifCond .ne 10, 3) := by decide +kernel
theorem dX3_unitsInside_7 : decode cX3_unitsInside 7 = .ok (.aload_n 0, 1) := by decide +kernel
theorem dX3_unitsInside_8 : decode cX3_unitsInside 8 = .ok (.getfield 42, 3) := by decide +kernel
theorem dX3_unitsInside_11 : decode cX3_unitsInside 11 = .ok (.ifCond .eq 7, 3) := by decide +kernel
theorem dX3_unitsInside_14 : decode cX3_unitsInside 14 = .ok (.iconst 1, 1) := by decide +kernel
theorem dX3_unitsInside_15 : decode cX3_unitsInside 15 = .ok (.goto 4, 3) := by decide +kernel
theorem dX3_unitsInside_18 : decode cX3_unitsInside 18 = .ok (.iconst 0, 1) := by decide +kernel
theorem dX3_unitsInside_19 : decode cX3_unitsInside 19 = .ok (.ireturn, 1) := by decide +kernel
theorem dX3_waitsForWord_0 : decode cX3_waitsForWord 0 = .ok (.aload_n 0, 1) := by decide +kernel
theorem dX3_waitsForWord_1 : decode cX3_waitsForWord 1 = .ok (.getfield 57, 3) := by decide +kernel
theorem dX3_waitsForWord_4 : decode cX3_waitsForWord 4 = .ok (.ifCond .le 17, 3) := by decide +kernel
theorem dX3_waitsForWord_7 : decode cX3_waitsForWord 7 = .ok (.iload_n 1, 1) := by decide +kernel
theorem dX3_waitsForWord_8 : decode cX3_waitsForWord 8 = .ok (.aload_n 0, 1) := by decide +kernel
theorem dX3_waitsForWord_9 : decode cX3_waitsForWord 9 = .ok (.getfield 60, 3) := by decide +kernel
theorem dX3_waitsForWord_12 : decode cX3_waitsForWord 12 = .ok (.isub, 1) := by decide +kernel
theorem dX3_waitsForWord_13 : decode cX3_waitsForWord 13 = .ok (.iconst 3, 1) := by decide +kernel
theorem dX3_waitsForWord_14 : decode cX3_waitsForWord 14 = .ok (.if_icmp .lt 7, 3) := by decide +kernel
theorem dX3_waitsForWord_17 : decode cX3_waitsForWord 17 = .ok (.iconst 1, 1) := by decide +kernel
theorem dX3_waitsForWord_18 : decode cX3_waitsForWord 18 = .ok (.goto 4, 3) := by decide +kernel
theorem dX3_waitsForWord_21 : decode cX3_waitsForWord 21 = .ok (.iconst 0, 1) := by decide +kernel
theorem dX3_waitsForWord_22 : decode cX3_waitsForWord 22 = .ok (.ireturn, 1) := by decide +kernel
theorem dX3_giveOn_0 : decode cX3_giveOn 0 = .ok (.aload_n 0, 1) := by decide +kernel
theorem dX3_giveOn_1 : decode cX3_giveOn 1 = .ok (.getfield 35, 3) := by decide +kernel
theorem dX3_giveOn_4 : decode cX3_giveOn 4 = .ok (.aload_n 0, 1) := by decide +kernel
theorem dX3_giveOn_5 : decode cX3_giveOn 5 = .ok (.getfield 11, 3) := by decide +kernel
theorem dX3_giveOn_8 : decode cX3_giveOn 8 = .ok (.iconst 3, 1) := by decide +kernel
theorem dX3_giveOn_9 : decode cX3_giveOn 9 = .ok (.iaload, 1) := by decide +kernel
theorem dX3_giveOn_10 : decode cX3_giveOn 10 = .ok (.if_icmp .lt 5, 3) := by decide +kernel
theorem dX3_giveOn_13 : decode cX3_giveOn 13 = .ok (.iconst 0, 1) := by decide +kernel
theorem dX3_giveOn_14 : decode cX3_giveOn 14 = .ok (.ireturn, 1) := by decide +kernel
theorem dX3_giveOn_15 : decode cX3_giveOn 15 = .ok (.aload_n 0, 1) := by decide +kernel
theorem dX3_giveOn_16 : decode cX3_giveOn 16 = .ok (.dup, 1) := by decide +kernel
theorem dX3_giveOn_17 : decode cX3_giveOn 17 = .ok (.getfield 35, 3) := by decide +kernel
theorem dX3_giveOn_20 : decode cX3_giveOn 20 = .ok (.iconst 1, 1) := by decide +kernel
theorem dX3_giveOn_21 : decode cX3_giveOn 21 = .ok (.iadd, 1) := by decide +kernel
theorem dX3_giveOn_22 : decode cX3_giveOn 22 = .ok (.putfield 35, 3) := by decide +kernel
theorem dX3_giveOn_25 : decode cX3_giveOn 25 = .ok (.aload_n 0, 1) := by decide +kernel
theorem dX3_giveOn_26 : decode cX3_giveOn 26 = .ok (.iconst 0, 1) := by decide +kernel
theorem dX3_giveOn_27 : decode cX3_giveOn 27 = .ok (.putfield 42, 3) := by decide +kernel
theorem dX3_giveOn_30 : decode cX3_giveOn 30 = .ok (.iconst 1, 1) := by decide +kernel
theorem dX3_giveOn_31 : decode cX3_giveOn 31 = .ok (.ireturn, 1) := by decide +kernel
theorem dX3_unitIsFinished_0 : decode cX3_unitIsFinished 0 = .ok (.aload_n 0, 1) := by decide +kernel
theorem dX3_unitIsFinished_1 : decode cX3_unitIsFinished 1 = .ok (.getfield 45, 3) := by decide +kernel
theorem dX3_unitIsFinished_4 : decode cX3_unitIsFinished 4 = .ok (.aload_n 0, 1) := by decide +kernel
theorem dX3_unitIsFinished_5 : decode cX3_unitIsFinished 5 = .ok (.getfield 11, 3) := by decide +kernel
theorem dX3_unitIsFinished_8 : decode cX3_unitIsFinished 8 = .ok (.iconst 0, 1) := by decide +kernel
theorem dX3_unitIsFinished_9 : decode cX3_unitIsFinished 9 = .ok (.iaload, 1) := by decide +kernel
theorem dX3_unitIsFinished_10 : decode cX3_unitIsFinished 10 = .ok (.if_icmp .lt 7, 3) := by decide +kernel
theorem dX3_unitIsFinished_13 : decode cX3_unitIsFinished 13 = .ok (.iconst 1, 1) := by decide +kernel
theorem dX3_unitIsFinished_14 : decode cX3_unitIsFinished 14 = .ok (.goto 4, 3) := by decide +kernel
theorem dX3_unitIsFinished_17 : decode cX3_unitIsFinished 17 = .ok (.iconst 0, 1) := by decide +kernel
theorem dX3_unitIsFinished_18 : decode cX3_unitIsFinished 18 = .ok (.ireturn, 1) := by decide +kernel
set_option maxRecDepth 20000 in
theorem ggX3_passes_X3_isEach : GoodIn wsX3_passes wsX3_isEach := goodIn_r _ [10, 3, 18, 19, 20, 21, 22, 23, 24, 25, 26, 27, 28, 29, 30, 31] (by decide +kernel) (by decide +kernel)
set_option maxRecDepth 20000 in
theorem gX3_passes_X3_isEach : GoodIn wsX3_passes (wsV RX3 83 RX3 yX3_isEach wsX3_isEach) := goodIn_app (goodIn_of _ (by decide +kernel)) ggX3_passes_X3_isEach
set_option maxRecDepth 20000 in
theorem ggX3_passes_X3_reject : GoodIn wsX3_passes wsX3_reject := goodIn_r _ [14, 15, 16, 17, 18, 19, 20, 21, 22, 23, 24, 25, 26, 27, 28, 29, 30, 31] (by decide +kernel) (by decide +kernel)
set_option maxRecDepth 20000 in
theorem gX3_passes_X3_reject : GoodIn wsX3_passes (wsV RX3 87 RX3 yX3_reject wsX3_reject) := goodIn_app (goodIn_of _ (by decide +kernel)) ggX3_passes_X3_reject
theorem dX3_passes_0 : decode cX3_passes 0 = .ok (.aload_n 0, 1) := by decide +kernel
theorem dX3_passes_1 : decode cX3_passes 1 = .ok (.iconst 0, 1) := by decide +kernel
theorem dX3_passes_2 : decode cX3_passes 2 = .ok (.putfield 38, 3) := by decide +kernel
theorem dX3_passes_5 : decode cX3_passes 5 = .ok (.aload_n 0, 1) := by decide +kernel
theorem dX3_passes_6 : decode cX3_passes 6 = .ok (.iconst 0, 1) := by decide +kernel
theorem dX3_passes_7 : decode cX3_passes 7 = .ok (.putfield 45, 3) := by decide +kernel
theorem dX3_passes_10 : decode cX3_passes 10 = .ok (.aload_n 0, 1) := by decide +kernel
theorem dX3_passes_11 : decode cX3_passes 11 = .ok (.dup, 1) := by decide +kernel
theorem dX3_passes_12 : decode cX3_passes 12 = .ok (.getfield 48, 3) := by decide +kernel
theorem dX3_passes_15 : decode cX3_passes 15 = .ok (.iconst 1, 1) := by decide +kernel
theorem dX3_passes_16 : decode cX3_passes 16 = .ok (.iadd, 1) := by decide +kernel
theorem dX3_passes_17 : decode cX3_passes 17 = .ok (.putfield 48, 3) := by decide +kernel
theorem dX3_passes_20 : decode cX3_passes 20 = .ok (.aload_n 0, 1) := by decide +kernel
theorem dX3_passes_21 : decode cX3_passes 21 = .ok (.aload_n 0, 1) := by decide +kernel
theorem dX3_passes_22 : decode cX3_passes 22 = .ok (.getfield 11, 3) := by decide +kernel
theorem dX3_passes_25 : decode cX3_passes 25 = .ok (.iconst 1, 1) := by decide +kernel
theorem dX3_passes_26 : decode cX3_passes 26 = .ok (.iaload, 1) := by decide +kernel
theorem dX3_passes_27 : decode cX3_passes 27 = .ok (.invokevirtual 83, 3) := by decide +kernel
theorem dX3_passes_30 : decode cX3_passes 30 = .ok (.ifCond .eq 10, 3) := by decide +kernel
theorem dX3_passes_33 : decode cX3_passes 33 = .ok (.aload_n 0, 1) := by decide +kernel
theorem dX3_passes_34 : decode cX3_passes 34 = .ok (.iload_n 1, 1) := by decide +kernel
theorem dX3_passes_35 : decode cX3_passes 35 = .ok (.invokevirtual 87, 3) := by decide +kernel
theorem dX3_passes_38 : decode cX3_passes 38 = .ok (.iconst 0, 1) := by decide +kernel
theorem dX3_passes_39 : decode cX3_passes 39 = .ok (.ireturn, 1) := by decide +kernel
theorem dX3_passes_40 : decode cX3_passes 40 = .ok (.aload_n 0, 1) := by decide +kernel
theorem dX3_passes_41 : decode cX3_passes 41 = .ok (.aload_n 0, 1) := by decide +kernel
theorem dX3_passes_42 : decode cX3_passes 42 = .ok (.getfield 11, 3) := by decide +kernel
theorem dX3_passes_45 : decode cX3_passes 45 = .ok (.iconst 2, 1) := by decide +kernel
theorem dX3_passes_46 : decode cX3_passes 46 = .ok (.iaload, 1) := by decide +kernel
theorem dX3_passes_47 : decode cX3_passes 47 = .ok (.invokevirtual 83, 3) := by decide +kernel
theorem dX3_passes_50 : decode cX3_passes 50 = .ok (.ifCond .eq 15, 3) := by decide +kernel
theorem dX3_passes_53 : decode cX3_passes 53 = .ok (.aload_n 0, 1) := by decide +kernel
theorem dX3_passes_54 : decode cX3_passes 54 = .ok (.dup, 1) := by decide +kernel
theorem dX3_passes_55 : decode cX3_passes 55 = .ok (.getfield 54, 3) := by decide +kernel
theorem dX3_passes_58 : decode cX3_passes 58 = .ok (.iconst 1, 1) := by decide +kernel
theorem dX3_passes_59 : decode cX3_passes 59 = .ok (.iadd, 1) := by decide +kernel
theorem dX3_passes_60 : decode cX3_passes 60 = .ok (.putfield 54, 3) := by decide +kernel
theorem dX3_passes_63 : decode cX3_passes 63 = .ok (.iconst 0, 1) := by decide +kernel
theorem dX3_passes_64 : decode cX3_passes 64 = .ok (.ireturn, 1) := by decide +kernel
theorem dX3_passes_65 : decode cX3_passes 65 = .ok (.iconst 1, 1) := by decide +kernel
theorem dX3_passes_66 : decode cX3_passes 66 = .ok (.ireturn, 1) := by decide +kernel
theorem dX3_isEach_0 : decode cX3_isEach 0 = .ok (.iload_n 1, 1) := by decide +kernel
theorem dX3_isEach_1 : decode cX3_isEach 1 = .ok (.ifCond .eq 16, 3) := by decide +kernel
theorem dX3_isEach_4 : decode cX3_isEach 4 = .ok (.aload_n 0, 1) := by decide +kernel
theorem dX3_isEach_5 : decode cX3_isEach 5 = .ok (.getfield 48, 3) := by decide +kernel
theorem dX3_isEach_8 : decode cX3_isEach 8 = .ok (.iload_n 1, 1) := by decide +kernel
theorem dX3_isEach_9 : decode cX3_isEach 9 = .ok (.irem, 1) := by decide +kernel
theorem dX3_isEach_10 : decode cX3_isEach 10 = .ok (.ifCond .ne 7, 3) := by decide +kernel
theorem dX3_isEach_13 : decode cX3_isEach 13 = .ok (.iconst 1, 1) := by decide +kernel
theorem dX3_isEach_14 : decode cX3_isEach 14 = .ok (.goto 4, 3) := by decide +kernel
theorem dX3_isEach_17 : decode cX3_isEach 17 = .ok (.iconst 0, 1) := by decide +kernel
theorem dX3_isEach_18 : decode cX3_isEach 18 = .ok (.ireturn, 1) := by decide +kernel
theorem dX3_reject_0 : decode cX3_reject 0 = .ok (.aload_n 0, 1) := by decide +kernel
theorem dX3_reject_1 : decode cX3_reject 1 = .ok (.dup, 1) := by decide +kernel
theorem dX3_reject_2 : decode cX3_reject 2 = .ok (.getfield 51, 3) := by decide +kernel
theorem dX3_reject_5 : decode cX3_reject 5 = .ok (.iconst 1, 1) := by decide +kernel
theorem dX3_reject_6 : decode cX3_reject 6 = .ok (.iadd, 1) := by decide +kernel
theorem dX3_reject_7 : decode cX3_reject 7 = .ok (.putfield 51, 3) := by decide +kernel
theorem dX3_reject_10 : decode cX3_reject 10 = .ok (.aload_n 0, 1) := by decide +kernel
theorem dX3_reject_11 : decode cX3_reject 11 = .ok (.getfield 57, 3) := by decide +kernel
theorem dX3_reject_14 : decode cX3_reject 14 = .ok (.ifCond .ne 8, 3) := by decide +kernel
theorem dX3_reject_17 : decode cX3_reject 17 = .ok (.aload_n 0, 1) := by decide +kernel
theorem dX3_reject_18 : decode cX3_reject 18 = .ok (.iload_n 1, 1) := by decide +kernel
theorem dX3_reject_19 : decode cX3_reject 19 = .ok (.putfield 60, 3) := by decide +kernel
theorem dX3_reject_22 : decode cX3_reject 22 = .ok (.aload_n 0, 1) := by decide +kernel
theorem dX3_reject_23 : decode cX3_reject 23 = .ok (.dup, 1) := by decide +kernel
theorem dX3_reject_24 : decode cX3_reject 24 = .ok (.getfield 57, 3) := by decide +kernel
theorem dX3_reject_27 : decode cX3_reject 27 = .ok (.iconst 1, 1) := by decide +kernel
theorem dX3_reject_28 : decode cX3_reject 28 = .ok (.iadd, 1) := by decide +kernel
theorem dX3_reject_29 : decode cX3_reject 29 = .ok (.putfield 57, 3) := by decide +kernel
theorem dX3_reject_32 : decode cX3_reject 32 = .ok (.return_, 1) := by decide +kernel
