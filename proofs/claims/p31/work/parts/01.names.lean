/-! ===== BEGIN words of one list among another's, by their places ===== -/
theorem goodIn_r {big : List Cond} (ws : List Cond) (ps : List Nat) (hp : ws = ps.filterMap (fun i => big[i]?)) (h : ws.all goodWord = true) : GoodIn big ws := by
  intro w hw
  have h1 := List.all_eq_true.mp h w hw
  rw [hp] at hw
  obtain ⟨i, -, hi⟩ := List.mem_filterMap.mp hw
  have hm : w ∈ big := by first | exact List.mem_of_getElem? hi | exact List.getElem?_mem hi
  exact ⟨hm, good_of_word h1⟩
theorem goodIn_app {big a b : List Cond} (ha : GoodIn big a) (hb : GoodIn big b) : GoodIn big (a ++ b) := fun w h => (List.mem_append.mp h).elim (ha w) (hb w)
theorem goodIn_ca {big a b : List Cond} {c : Cond} (ha : GoodIn big (c :: a)) (hb : GoodIn big b) : GoodIn big (c :: (a ++ b)) := fun w h => (List.mem_cons.mp h).elim (fun e => ha w (List.mem_cons.mpr (Or.inl e))) (fun h => (List.mem_append.mp h).elim (fun h => ha w (List.mem_cons.mpr (Or.inr h))) (hb w))
theorem goodIn_sub {big ws : List Cond} (hm : ∀ w ∈ ws, w ∈ big) (h : ws.all goodWord = true) : GoodIn big ws := fun w hw => ⟨hm w hw, good_of_word (List.all_eq_true.mp h w hw)⟩
/-! ===== END ===== -/

/-! ===== BEGIN printed: names, fields, word lists, decode rows ===== -/
def RX0 : String := "WindCardShips$Captain"
def TX0 : u_T := fun k => match k with
  | 0 => ("WindCardShips$Captain", "hand", "I", false)
  | 1 => ("WindCardShips$Captain", "card", "I", false)
  | _ => ("WindCardShips$Captain", "timber", "I", false)
def tyX0 : Nat → FieldType := fun k => match k with
  | 0 => .int
  | 1 => .int
  | _ => .int
abbrev wsX00 : List Cond := u_ws RX0 TX0 3
theorem nmX0 : ∀ a, a < 3 → ∀ b, b < 3 → a ≠ b → (TX0 a).2.1 ≠ (TX0 b).2.1 := by decide +kernel
theorem tyX0_ok : ∀ k, k < 3 → parseFieldDescriptor (TX0 k).2.2.1 = some (tyX0 k) := by decide +kernel
abbrev cX0_init : ByteArray := prog_2_method_1_code
def yX0_init : MethodName := ⟨RX0, "<init>", "()V"⟩
abbrev cX0_exists : ByteArray := prog_2_method_2_code
def yX0_exists : MethodName := ⟨RX0, "exists", "(I)Z"⟩
abbrev cX0_isCard : ByteArray := prog_2_method_3_code
def yX0_isCard : MethodName := ⟨RX0, "isCard", "(I)Z"⟩
abbrev cX0_copyFrom : ByteArray := prog_2_method_4_code
def yX0_copyFrom : MethodName := ⟨RX0, "copyFrom", "(LWindCardShips$Captain;)V"⟩
abbrev cX0_holds : ByteArray := prog_2_method_5_code
def yX0_holds : MethodName := ⟨RX0, "holds", "(I)Z"⟩
abbrev cX0_layDownCard : ByteArray := prog_2_method_6_code
def yX0_layDownCard : MethodName := ⟨RX0, "layDownCard", "()V"⟩
def RX1 : String := "WindCardShips$Game"
def TX1 : u_T := fun k => match k with
  | 0 => ("WindCardShips$Game", "turn", "I", false)
  | 1 => ("WindCardShips$Game", "moving", "Z", false)
  | 2 => ("WindCardShips$Game", "direction", "I", false)
  | 3 => ("WindCardShips$Game", "windStrength", "I", false)
  | 4 => ("WindCardShips$Game", "shipCount", "I", false)
  | 5 => ("WindCardShips$Game", "captures", "I", false)
  | 6 => ("WindCardShips$Game", "first", "LWindCardShips$Captain;", true)
  | 7 => ("WindCardShips$Game", "second", "LWindCardShips$Captain;", true)
  | 8 => ("WindCardShips$Game", "islands", "[I", true)
  | _ => ("WindCardShips$Game", "ships", "[LWindCardShips$Ship;", true)
def tyX1 : Nat → FieldType := fun k => match k with
  | 0 => .int
  | 1 => .boolean
  | 2 => .int
  | 3 => .int
  | 4 => .int
  | 5 => .int
  | 6 => .object "WindCardShips$Captain"
  | 7 => .object "WindCardShips$Captain"
  | 8 => .array .int
  | _ => .array (.object "WindCardShips$Ship")
abbrev wsX10 : List Cond := u_ws RX1 TX1 10
theorem nmX1 : ∀ a, a < 10 → ∀ b, b < 10 → a ≠ b → (TX1 a).2.1 ≠ (TX1 b).2.1 := by decide +kernel
theorem tyX1_ok : ∀ k, k < 10 → parseFieldDescriptor (TX1 k).2.2.1 = some (tyX1 k) := by decide +kernel
abbrev cX1_init : ByteArray := prog_3_method_1_code
def yX1_init : MethodName := ⟨RX1, "<init>", "()V"⟩
abbrev cX1_copyFrom : ByteArray := prog_3_method_2_code
def yX1_copyFrom : MethodName := ⟨RX1, "copyFrom", "(LWindCardShips$Game;)V"⟩
abbrev cX1_turn : ByteArray := prog_3_method_3_code
def yX1_turn : MethodName := ⟨RX1, "turn", "()I"⟩
abbrev cX1_captainOf : ByteArray := prog_3_method_4_code
def yX1_captainOf : MethodName := ⟨RX1, "captainOf", "(I)LWindCardShips$Captain;"⟩
abbrev cX1_known : ByteArray := prog_3_method_5_code
def yX1_known : MethodName := ⟨RX1, "known", "(I)LWindCardShips$Ship;"⟩
abbrev cX1_shipOn : ByteArray := prog_3_method_6_code
def yX1_shipOn : MethodName := ⟨RX1, "shipOn", "(I)LWindCardShips$Ship;"⟩
abbrev cX1_isIsland : ByteArray := prog_3_method_7_code
def yX1_isIsland : MethodName := ⟨RX1, "isIsland", "(I)Z"⟩
abbrev cX1_isFree : ByteArray := prog_3_method_8_code
def yX1_isFree : MethodName := ⟨RX1, "isFree", "(I)Z"⟩
abbrev cX1_hexAhead : ByteArray := prog_3_method_9_code
def yX1_hexAhead : MethodName := ⟨RX1, "hexAhead", "(LWindCardShips$Ship;II)I"⟩
abbrev cX1_contentOf : ByteArray := prog_3_method_10_code
def yX1_contentOf : MethodName := ⟨RX1, "contentOf", "(I)I"⟩
abbrev cX1_placeIsland : ByteArray := prog_3_method_11_code
def yX1_placeIsland : MethodName := ⟨RX1, "placeIsland", "(II)I"⟩
abbrev cX1_launch : ByteArray := prog_3_method_12_code
def yX1_launch : MethodName := ⟨RX1, "launch", "(IIIIII)I"⟩
abbrev cX1_tellCard : ByteArray := prog_3_method_14_code
def yX1_tellCard : MethodName := ⟨RX1, "tellCard", "(II)I"⟩
abbrev cX1_beginMoves : ByteArray := prog_3_method_15_code
def yX1_beginMoves : MethodName := ⟨RX1, "beginMoves", "()V"⟩
abbrev cX1_directionBy : ByteArray := prog_3_method_16_code
def yX1_directionBy : MethodName := ⟨RX1, "directionBy", "(I)I"⟩
abbrev cX1_strengthBy : ByteArray := prog_3_method_17_code
def yX1_strengthBy : MethodName := ⟨RX1, "strengthBy", "(I)I"⟩
abbrev cX1_toldSet : ByteArray := prog_3_method_18_code
def yX1_toldSet : MethodName := ⟨RX1, "toldSet", "()I"⟩
abbrev cX1_stepsNow : ByteArray := prog_3_method_19_code
def yX1_stepsNow : MethodName := ⟨RX1, "stepsNow", "(LWindCardShips$Ship;)I"⟩
abbrev cX1_sailAlong : ByteArray := prog_3_method_20_code
def yX1_sailAlong : MethodName := ⟨RX1, "sailAlong", "(II)I"⟩
abbrev cX1_fireAt : ByteArray := prog_3_method_21_code
def yX1_fireAt : MethodName := ⟨RX1, "fireAt", "(III)I"⟩
abbrev cX1_shotLength : ByteArray := prog_3_method_22_code
def yX1_shotLength : MethodName := ⟨RX1, "shotLength", "(LWindCardShips$Ship;ILWindCardShips$Ship;)I"⟩
abbrev cX1_distanceAlong : ByteArray := prog_3_method_23_code
def yX1_distanceAlong : MethodName := ⟨RX1, "distanceAlong", "(IILWindCardShips$Ship;)I"⟩
abbrev cX1_targetSet : ByteArray := prog_3_method_24_code
def yX1_targetSet : MethodName := ⟨RX1, "targetSet", "(LWindCardShips$Ship;I)I"⟩
abbrev cX1_threatSet : ByteArray := prog_3_method_25_code
def yX1_threatSet : MethodName := ⟨RX1, "threatSet", "(LWindCardShips$Ship;)I"⟩
abbrev cX1_grappleTwo : ByteArray := prog_3_method_26_code
def yX1_grappleTwo : MethodName := ⟨RX1, "grappleTwo", "(II)I"⟩
abbrev cX1_cutLoose : ByteArray := prog_3_method_27_code
def yX1_cutLoose : MethodName := ⟨RX1, "cutLoose", "(I)I"⟩
abbrev cX1_release : ByteArray := prog_3_method_28_code
def yX1_release : MethodName := ⟨RX1, "release", "(LWindCardShips$Ship;)V"⟩
abbrev cX1_fight : ByteArray := prog_3_method_29_code
def yX1_fight : MethodName := ⟨RX1, "fight", "(LWindCardShips$Ship;LWindCardShips$Ship;)V"⟩
abbrev cX1_capture : ByteArray := prog_3_method_30_code
def yX1_capture : MethodName := ⟨RX1, "capture", "(LWindCardShips$Ship;LWindCardShips$Ship;)V"⟩
abbrev cX1_mend : ByteArray := prog_3_method_31_code
def yX1_mend : MethodName := ⟨RX1, "mend", "(II)I"⟩
abbrev cX1_mendable : ByteArray := prog_3_method_32_code
def yX1_mendable : MethodName := ⟨RX1, "mendable", "(LWindCardShips$Ship;II)I"⟩
abbrev cX1_endTurn : ByteArray := prog_3_method_33_code
def yX1_endTurn : MethodName := ⟨RX1, "endTurn", "()I"⟩
abbrev cX1_tally : ByteArray := prog_3_method_34_code
def yX1_tally : MethodName := ⟨RX1, "tally", "(I)I"⟩
abbrev cX1_islandCount : ByteArray := prog_3_method_35_code
def yX1_islandCount : MethodName := ⟨RX1, "islandCount", "()I"⟩
abbrev cX1_fleetOf : ByteArray := prog_3_method_36_code
def yX1_fleetOf : MethodName := ⟨RX1, "fleetOf", "(I)I"⟩
abbrev cX1_hullsOf : ByteArray := prog_3_method_37_code
def yX1_hullsOf : MethodName := ⟨RX1, "hullsOf", "(I)I"⟩
abbrev cX1_strengthOf : ByteArray := prog_3_method_38_code
def yX1_strengthOf : MethodName := ⟨RX1, "strengthOf", "(I)I"⟩
abbrev cX1_tellOfCaptain : ByteArray := prog_3_method_39_code
def yX1_tellOfCaptain : MethodName := ⟨RX1, "tellOfCaptain", "(II)I"⟩
abbrev cX1_tellOfShip : ByteArray := prog_3_method_40_code
def yX1_tellOfShip : MethodName := ⟨RX1, "tellOfShip", "(LWindCardShips$Ship;I)I"⟩
def RX2 : String := "WindCardShips$Hexes"
def TX2 : u_T := fun k => match k with
  | _ => ("", "", "", false)
def tyX2 : Nat → FieldType := fun k => match k with
  | _ => .int
abbrev wsX20 : List Cond := u_ws RX2 TX2 0
theorem nmX2 : ∀ a, a < 0 → ∀ b, b < 0 → a ≠ b → (TX2 a).2.1 ≠ (TX2 b).2.1 := by decide +kernel
theorem tyX2_ok : ∀ k, k < 0 → parseFieldDescriptor (TX2 k).2.2.1 = some (tyX2 k) := by decide +kernel
abbrev cX2_exists : ByteArray := prog_4_method_2_code
def yX2_exists : MethodName := ⟨RX2, "exists", "(I)Z"⟩
abbrev cX2_isDirection : ByteArray := prog_4_method_3_code
def yX2_isDirection : MethodName := ⟨RX2, "isDirection", "(I)Z"⟩
abbrev cX2_next : ByteArray := prog_4_method_4_code
def yX2_next : MethodName := ⟨RX2, "next", "(II)I"⟩
abbrev cX2_areNeighbors : ByteArray := prog_4_method_5_code
def yX2_areNeighbors : MethodName := ⟨RX2, "areNeighbors", "(II)Z"⟩
abbrev cX2_rowStep : ByteArray := prog_4_method_6_code
def yX2_rowStep : MethodName := ⟨RX2, "rowStep", "(I)I"⟩
abbrev cX2_columnStep : ByteArray := prog_4_method_7_code
def yX2_columnStep : MethodName := ⟨RX2, "columnStep", "(I)I"⟩
def RX3 : String := "WindCardShips$History"
def TX3 : u_T := fun k => match k with
  | 0 => ("WindCardShips$History", "rows", "[LWindCardShips$State;", true)
  | 1 => ("WindCardShips$History", "aside", "LWindCardShips$State;", false)
  | _ => ("WindCardShips$History", "size", "I", false)
def tyX3 : Nat → FieldType := fun k => match k with
  | 0 => .array (.object "WindCardShips$State")
  | 1 => .object "WindCardShips$State"
  | _ => .int
abbrev wsX30 : List Cond := u_ws RX3 TX3 3
theorem nmX3 : ∀ a, a < 3 → ∀ b, b < 3 → a ≠ b → (TX3 a).2.1 ≠ (TX3 b).2.1 := by decide +kernel
theorem tyX3_ok : ∀ k, k < 3 → parseFieldDescriptor (TX3 k).2.2.1 = some (tyX3 k) := by decide +kernel
abbrev cX3_init : ByteArray := prog_5_method_1_code
def yX3_init : MethodName := ⟨RX3, "<init>", "()V"⟩
abbrev cX3_size : ByteArray := prog_5_method_2_code
def yX3_size : MethodName := ⟨RX3, "size", "()I"⟩
abbrev cX3_keepAside : ByteArray := prog_5_method_3_code
def yX3_keepAside : MethodName := ⟨RX3, "keepAside", "(LWindCardShips$State;)V"⟩
abbrev cX3_settle : ByteArray := prog_5_method_4_code
def yX3_settle : MethodName := ⟨RX3, "settle", "(I)I"⟩
abbrev cX3_stepBack : ByteArray := prog_5_method_5_code
def yX3_stepBack : MethodName := ⟨RX3, "stepBack", "(LWindCardShips$State;)I"⟩
def RX4 : String := "WindCardShips$Orders"
def TX4 : u_T := fun k => match k with
  | 0 => ("WindCardShips$Orders", "signs", "[I", true)
  | 1 => ("WindCardShips$Orders", "length", "I", false)
  | 2 => ("WindCardShips$Orders", "at", "I", false)
  | 3 => ("WindCardShips$Orders", "letter", "I", false)
  | 4 => ("WindCardShips$Orders", "one", "I", false)
  | 5 => ("WindCardShips$Orders", "two", "I", false)
  | _ => ("WindCardShips$Orders", "three", "I", false)
def tyX4 : Nat → FieldType := fun k => match k with
  | 0 => .array .int
  | 1 => .int
  | 2 => .int
  | 3 => .int
  | 4 => .int
  | 5 => .int
  | _ => .int
abbrev wsX40 : List Cond := u_ws RX4 TX4 7
theorem nmX4 : ∀ a, a < 7 → ∀ b, b < 7 → a ≠ b → (TX4 a).2.1 ≠ (TX4 b).2.1 := by decide +kernel
theorem tyX4_ok : ∀ k, k < 7 → parseFieldDescriptor (TX4 k).2.2.1 = some (tyX4 k) := by decide +kernel
abbrev cX4_init : ByteArray := prog_6_method_1_code
def yX4_init : MethodName := ⟨RX4, "<init>", "()V"⟩
abbrev cX4_length : ByteArray := prog_6_method_2_code
def yX4_length : MethodName := ⟨RX4, "length", "()I"⟩
def RX5 : String := "WindCardShips$Path"
def TX5 : u_T := fun k => match k with
  | _ => ("", "", "", false)
def tyX5 : Nat → FieldType := fun k => match k with
  | _ => .int
abbrev wsX50 : List Cond := u_ws RX5 TX5 0
theorem nmX5 : ∀ a, a < 0 → ∀ b, b < 0 → a ≠ b → (TX5 a).2.1 ≠ (TX5 b).2.1 := by decide +kernel
theorem tyX5_ok : ∀ k, k < 0 → parseFieldDescriptor (TX5 k).2.2.1 = some (tyX5 k) := by decide +kernel
abbrev cX5_isPath : ByteArray := prog_7_method_2_code
def yX5_isPath : MethodName := ⟨RX5, "isPath", "(I)Z"⟩
abbrev cX5_stepsOf : ByteArray := prog_7_method_3_code
def yX5_stepsOf : MethodName := ⟨RX5, "stepsOf", "(I)I"⟩
abbrev cX5_unitOf : ByteArray := prog_7_method_4_code
def yX5_unitOf : MethodName := ⟨RX5, "unitOf", "(I)I"⟩
abbrev cX5_turned : ByteArray := prog_7_method_5_code
def yX5_turned : MethodName := ⟨RX5, "turned", "(II)I"⟩
def RX6 : String := "WindCardShips$Routes"
def TX6 : u_T := fun k => match k with
  | 0 => ("WindCardShips$Routes", "pathTo", "[I", true)
  | 1 => ("WindCardShips$Routes", "queue", "[I", true)
  | 2 => ("WindCardShips$Routes", "arrival", "[I", true)
  | _ => ("WindCardShips$Routes", "queued", "I", false)
def tyX6 : Nat → FieldType := fun k => match k with
  | 0 => .array .int
  | 1 => .array .int
  | 2 => .array .int
  | _ => .int
abbrev wsX60 : List Cond := u_ws RX6 TX6 4
theorem nmX6 : ∀ a, a < 4 → ∀ b, b < 4 → a ≠ b → (TX6 a).2.1 ≠ (TX6 b).2.1 := by decide +kernel
theorem tyX6_ok : ∀ k, k < 4 → parseFieldDescriptor (TX6 k).2.2.1 = some (tyX6 k) := by decide +kernel
abbrev cX6_init : ByteArray := prog_8_method_1_code
def yX6_init : MethodName := ⟨RX6, "<init>", "()V"⟩
abbrev cX6_explore : ByteArray := prog_8_method_2_code
def yX6_explore : MethodName := ⟨RX6, "explore", "(LWindCardShips$Game;LWindCardShips$Ship;I)V"⟩
abbrev cX6_spread : ByteArray := prog_8_method_3_code
def yX6_spread : MethodName := ⟨RX6, "spread", "(LWindCardShips$Game;LWindCardShips$Ship;II)V"⟩
abbrev cX6_note : ByteArray := prog_8_method_4_code
def yX6_note : MethodName := ⟨RX6, "note", "(III)V"⟩
abbrev cX6_bestPath : ByteArray := prog_8_method_5_code
def yX6_bestPath : MethodName := ⟨RX6, "bestPath", "(I)I"⟩
abbrev cX6_tellOfWay : ByteArray := prog_8_method_7_code
def yX6_tellOfWay : MethodName := ⟨RX6, "tellOfWay", "(II)I"⟩
abbrev cX6_headingAt : ByteArray := prog_8_method_8_code
def yX6_headingAt : MethodName := ⟨RX6, "headingAt", "(I)I"⟩
abbrev cX6_reachedHexes : ByteArray := prog_8_method_9_code
def yX6_reachedHexes : MethodName := ⟨RX6, "reachedHexes", "()I"⟩
def RX7 : String := "WindCardShips$Ship"
def TX7 : u_T := fun k => match k with
  | 0 => ("WindCardShips$Ship", "number", "I", true)
  | 1 => ("WindCardShips$Ship", "captain", "I", false)
  | 2 => ("WindCardShips$Ship", "hex", "I", false)
  | 3 => ("WindCardShips$Ship", "heading", "I", false)
  | 4 => ("WindCardShips$Ship", "hull", "I", false)
  | 5 => ("WindCardShips$Ship", "sails", "I", false)
  | 6 => ("WindCardShips$Ship", "crew", "I", false)
  | 7 => ("WindCardShips$Ship", "guns", "I", false)
  | 8 => ("WindCardShips$Ship", "grappledWith", "I", false)
  | 9 => ("WindCardShips$Ship", "leftReady", "I", false)
  | 10 => ("WindCardShips$Ship", "rightReady", "I", false)
  | _ => ("WindCardShips$Ship", "done", "I", false)
def tyX7 : Nat → FieldType := fun k => match k with
  | 0 => .int
  | 1 => .int
  | 2 => .int
  | 3 => .int
  | 4 => .int
  | 5 => .int
  | 6 => .int
  | 7 => .int
  | 8 => .int
  | 9 => .int
  | 10 => .int
  | _ => .int
abbrev wsX70 : List Cond := u_ws RX7 TX7 12
theorem nmX7 : ∀ a, a < 12 → ∀ b, b < 12 → a ≠ b → (TX7 a).2.1 ≠ (TX7 b).2.1 := by decide +kernel
theorem tyX7_ok : ∀ k, k < 12 → parseFieldDescriptor (TX7 k).2.2.1 = some (tyX7 k) := by decide +kernel
abbrev cX7_init : ByteArray := prog_9_method_1_code
def yX7_init : MethodName := ⟨RX7, "<init>", "(I)V"⟩
abbrev cX7_hasSide : ByteArray := prog_9_method_2_code
def yX7_hasSide : MethodName := ⟨RX7, "hasSide", "(I)Z"⟩
abbrev cX7_copyFrom : ByteArray := prog_9_method_3_code
def yX7_copyFrom : MethodName := ⟨RX7, "copyFrom", "(LWindCardShips$Ship;)V"⟩
abbrev cX7_floats : ByteArray := prog_9_method_4_code
def yX7_floats : MethodName := ⟨RX7, "floats", "()Z"⟩
abbrev cX7_isGrappled : ByteArray := prog_9_method_5_code
def yX7_isGrappled : MethodName := ⟨RX7, "isGrappled", "()Z"⟩
abbrev cX7_has : ByteArray := prog_9_method_6_code
def yX7_has : MethodName := ⟨RX7, "has", "(I)Z"⟩
abbrev cX7_stepsBy : ByteArray := prog_9_method_7_code
def yX7_stepsBy : MethodName := ⟨RX7, "stepsBy", "(II)I"⟩
abbrev cX7_speedFactor : ByteArray := prog_9_method_8_code
def yX7_speedFactor : MethodName := ⟨RX7, "speedFactor", "(I)I"⟩
abbrev cX7_hitsFrom : ByteArray := prog_9_method_9_code
def yX7_hitsFrom : MethodName := ⟨RX7, "hitsFrom", "(I)I"⟩
abbrev cX7_suffer : ByteArray := prog_9_method_10_code
def yX7_suffer : MethodName := ⟨RX7, "suffer", "(I)V"⟩
abbrev cX7_noteShot : ByteArray := prog_9_method_11_code
def yX7_noteShot : MethodName := ⟨RX7, "noteShot", "(II)V"⟩
abbrev cX7_reloadingSides : ByteArray := prog_9_method_12_code
def yX7_reloadingSides : MethodName := ⟨RX7, "reloadingSides", "(I)I"⟩
abbrev cX7_isReloading : ByteArray := prog_9_method_13_code
def yX7_isReloading : MethodName := ⟨RX7, "isReloading", "(II)Z"⟩
def RX8 : String := "WindCardShips$State"
def TX8 : u_T := fun k => match k with
  | 0 => ("WindCardShips$State", "game", "LWindCardShips$Game;", true)
  | 1 => ("WindCardShips$State", "firstSlot", "LWindCardShips$Game;", true)
  | 2 => ("WindCardShips$State", "secondSlot", "LWindCardShips$Game;", true)
  | _ => ("WindCardShips$State", "taken", "I", false)
def tyX8 : Nat → FieldType := fun k => match k with
  | 0 => .object "WindCardShips$Game"
  | 1 => .object "WindCardShips$Game"
  | 2 => .object "WindCardShips$Game"
  | _ => .int
abbrev wsX80 : List Cond := u_ws RX8 TX8 4
theorem nmX8 : ∀ a, a < 4 → ∀ b, b < 4 → a ≠ b → (TX8 a).2.1 ≠ (TX8 b).2.1 := by decide +kernel
theorem tyX8_ok : ∀ k, k < 4 → parseFieldDescriptor (TX8 k).2.2.1 = some (tyX8 k) := by decide +kernel
abbrev cX8_init : ByteArray := prog_10_method_1_code
def yX8_init : MethodName := ⟨RX8, "<init>", "()V"⟩
abbrev cX8_copyFrom : ByteArray := prog_10_method_2_code
def yX8_copyFrom : MethodName := ⟨RX8, "copyFrom", "(LWindCardShips$State;)V"⟩
abbrev cX8_fillSlot : ByteArray := prog_10_method_3_code
def yX8_fillSlot : MethodName := ⟨RX8, "fillSlot", "(I)I"⟩
abbrev cX8_resumeSlot : ByteArray := prog_10_method_4_code
def yX8_resumeSlot : MethodName := ⟨RX8, "resumeSlot", "(I)I"⟩
abbrev cX8_slotOf : ByteArray := prog_10_method_5_code
def yX8_slotOf : MethodName := ⟨RX8, "slotOf", "(I)LWindCardShips$Game;"⟩
def RX9 : String := "WindCardShips"
def TX9 : u_T := fun k => match k with
  | 0 => ("WindCardShips", "state", "LWindCardShips$State;", true)
  | 1 => ("WindCardShips", "history", "LWindCardShips$History;", true)
  | 2 => ("WindCardShips", "orders", "LWindCardShips$Orders;", true)
  | _ => ("WindCardShips", "routes", "LWindCardShips$Routes;", true)
def tyX9 : Nat → FieldType := fun k => match k with
  | 0 => .object "WindCardShips$State"
  | 1 => .object "WindCardShips$History"
  | 2 => .object "WindCardShips$Orders"
  | _ => .object "WindCardShips$Routes"
abbrev wsX90 : List Cond := u_ws RX9 TX9 4
theorem nmX9 : ∀ a, a < 4 → ∀ b, b < 4 → a ≠ b → (TX9 a).2.1 ≠ (TX9 b).2.1 := by decide +kernel
theorem tyX9_ok : ∀ k, k < 4 → parseFieldDescriptor (TX9 k).2.2.1 = some (tyX9 k) := by decide +kernel
abbrev cX9_init : ByteArray := prog_1_method_1_code
def yX9_init : MethodName := ⟨RX9, "<init>", "()V"⟩
abbrev cX9_setIsland : ByteArray := prog_1_method_2_code
def yX9_setIsland : MethodName := ⟨RX9, "setIsland", "(II)I"⟩
abbrev cX9_addShip : ByteArray := prog_1_method_3_code
def yX9_addShip : MethodName := ⟨RX9, "addShip", "(IIIIII)I"⟩
abbrev cX9_tell : ByteArray := prog_1_method_5_code
def yX9_tell : MethodName := ⟨RX9, "tell", "(II)I"⟩
abbrev cX9_sail : ByteArray := prog_1_method_6_code
def yX9_sail : MethodName := ⟨RX9, "sail", "(II)I"⟩
abbrev cX9_fire : ByteArray := prog_1_method_7_code
def yX9_fire : MethodName := ⟨RX9, "fire", "(III)I"⟩
abbrev cX9_grapple : ByteArray := prog_1_method_8_code
def yX9_grapple : MethodName := ⟨RX9, "grapple", "(II)I"⟩
abbrev cX9_cut : ByteArray := prog_1_method_9_code
def yX9_cut : MethodName := ⟨RX9, "cut", "(I)I"⟩
abbrev cX9_repair : ByteArray := prog_1_method_10_code
def yX9_repair : MethodName := ⟨RX9, "repair", "(II)I"⟩
abbrev cX9_end : ByteArray := prog_1_method_11_code
def yX9_end : MethodName := ⟨RX9, "end", "()I"⟩
abbrev cX9_take : ByteArray := prog_1_method_12_code
def yX9_take : MethodName := ⟨RX9, "take", "(I)I"⟩
abbrev cX9_restore : ByteArray := prog_1_method_13_code
def yX9_restore : MethodName := ⟨RX9, "restore", "(I)I"⟩
abbrev cX9_undo : ByteArray := prog_1_method_14_code
def yX9_undo : MethodName := ⟨RX9, "undo", "()I"⟩
abbrev cX9_count : ByteArray := prog_1_method_18_code
def yX9_count : MethodName := ⟨RX9, "count", "(I)I"⟩
abbrev cX9_captain : ByteArray := prog_1_method_19_code
def yX9_captain : MethodName := ⟨RX9, "captain", "(II)I"⟩
abbrev cX9_ship : ByteArray := prog_1_method_20_code
def yX9_ship : MethodName := ⟨RX9, "ship", "(II)I"⟩
abbrev cX9_on : ByteArray := prog_1_method_21_code
def yX9_on : MethodName := ⟨RX9, "on", "(I)I"⟩
abbrev cX9_targets : ByteArray := prog_1_method_22_code
def yX9_targets : MethodName := ⟨RX9, "targets", "(II)I"⟩
abbrev cX9_hits : ByteArray := prog_1_method_23_code
def yX9_hits : MethodName := ⟨RX9, "hits", "(III)I"⟩
abbrev cX9_way : ByteArray := prog_1_method_24_code
def yX9_way : MethodName := ⟨RX9, "way", "(III)I"⟩
abbrev cX9_reach : ByteArray := prog_1_method_25_code
def yX9_reach : MethodName := ⟨RX9, "reach", "(I)I"⟩
abbrev cX9_windBy : ByteArray := prog_1_method_26_code
def yX9_windBy : MethodName := ⟨RX9, "windBy", "(II)I"⟩
abbrev cX9_threats : ByteArray := prog_1_method_28_code
def yX9_threats : MethodName := ⟨RX9, "threats", "(I)I"⟩
abbrev cX9_strength : ByteArray := prog_1_method_29_code
def yX9_strength : MethodName := ⟨RX9, "strength", "(I)I"⟩
def RX10 : String := "WindCardShipsModel"
def TX10 : u_T := fun k => match k with
  | _ => ("", "", "", false)
def tyX10 : Nat → FieldType := fun k => match k with
  | _ => .int
abbrev wsX100 : List Cond := u_ws RX10 TX10 0
theorem nmX10 : ∀ a, a < 0 → ∀ b, b < 0 → a ≠ b → (TX10 a).2.1 ≠ (TX10 b).2.1 := by decide +kernel
theorem tyX10_ok : ∀ k, k < 0 → parseFieldDescriptor (TX10 k).2.2.1 = some (tyX10 k) := by decide +kernel
def RJ6 : String := "java/lang/Integer"
def TJ6 : u_T := fun k => match k with
  | _ => ("", "", "", false)
def tyJ6 : Nat → FieldType := fun k => match k with
  | _ => .int
abbrev wsJ60 : List Cond := u_ws RJ6 TJ6 0
theorem nmJ6 : ∀ a, a < 0 → ∀ b, b < 0 → a ≠ b → (TJ6 a).2.1 ≠ (TJ6 b).2.1 := by decide +kernel
theorem tyJ6_ok : ∀ k, k < 0 → parseFieldDescriptor (TJ6 k).2.2.1 = some (tyJ6 k) := by decide +kernel
abbrev cJ6_bitCount_0f7a4 : ByteArray := prog_13_method_49_code
def yJ6_bitCount_0f7a4 : MethodName := ⟨RJ6, "bitCount", "(I)I"⟩
def RJ9 : String := "java/lang/Math"
def TJ9 : u_T := fun k => match k with
  | _ => ("", "", "", false)
def tyJ9 : Nat → FieldType := fun k => match k with
  | _ => .int
abbrev wsJ90 : List Cond := u_ws RJ9 TJ9 0
theorem nmJ9 : ∀ a, a < 0 → ∀ b, b < 0 → a ≠ b → (TJ9 a).2.1 ≠ (TJ9 b).2.1 := by decide +kernel
theorem tyJ9_ok : ∀ k, k < 0 → parseFieldDescriptor (TJ9 k).2.2.1 = some (tyJ9 k) := by decide +kernel
abbrev cJ9_max_7cf53 : ByteArray := prog_14_method_65_code
def yJ9_max_7cf53 : MethodName := ⟨RJ9, "max", "(II)I"⟩
abbrev cJ9_min_7cf53 : ByteArray := prog_14_method_69_code
def yJ9_min_7cf53 : MethodName := ⟨RJ9, "min", "(II)I"⟩
def RJ10 : String := "java/lang/System"
def TJ10 : u_T := fun k => match k with
  | _ => ("", "", "", false)
def tyJ10 : Nat → FieldType := fun k => match k with
  | _ => .int
abbrev wsJ100 : List Cond := u_ws RJ10 TJ10 0
theorem nmJ10 : ∀ a, a < 0 → ∀ b, b < 0 → a ≠ b → (TJ10 a).2.1 ≠ (TJ10 b).2.1 := by decide +kernel
theorem tyJ10_ok : ∀ k, k < 0 → parseFieldDescriptor (TJ10 k).2.2.1 = some (tyJ10 k) := by decide +kernel
def RJ7 : String := "java/util/Arrays"
def TJ7 : u_T := fun k => match k with
  | _ => ("", "", "", false)
def tyJ7 : Nat → FieldType := fun k => match k with
  | _ => .int
abbrev wsJ70 : List Cond := u_ws RJ7 TJ7 0
theorem nmJ7 : ∀ a, a < 0 → ∀ b, b < 0 → a ≠ b → (TJ7 a).2.1 ≠ (TJ7 b).2.1 := by decide +kernel
theorem tyJ7_ok : ∀ k, k < 0 → parseFieldDescriptor (TJ7 k).2.2.1 = some (tyJ7 k) := by decide +kernel
abbrev cJ7_fill_53178 : ByteArray := prog_16_method_103_code
def yJ7_fill_53178 : MethodName := ⟨RJ7, "fill", "([II)V"⟩
def RL : String := "WindCardShipsLaw"
abbrev cL_cell : ByteArray := method_2_code
def yL_cell : MethodName := ⟨RL, "cell", "([II)I"⟩
abbrev cL_lays : ByteArray := method_3_code
def yL_lays : MethodName := ⟨RL, "lays", "(LWindCardShips;[I)Z"⟩
abbrev cL_ones : ByteArray := method_4_code
def yL_ones : MethodName := ⟨RL, "ones", "(I)I"⟩
abbrev cL_isAll : ByteArray := method_5_code
def yL_isAll : MethodName := ⟨RL, "isAll", "(LWindCardShips;)Z"⟩
abbrev cL_isWay : ByteArray := method_6_code
def yL_isWay : MethodName := ⟨RL, "isWay", "(LWindCardShips;II)Z"⟩
abbrev cL_acts : ByteArray := method_7_code
def yL_acts : MethodName := ⟨RL, "acts", "(LWindCardShips;I)Z"⟩
abbrev cL_tells : ByteArray := method_8_code
def yL_tells : MethodName := ⟨RL, "tells", "(LWindCardShips;I)Z"⟩
abbrev cL_law : ByteArray := code
def yL_law : MethodName := ⟨RL, "law", "([I)Z"⟩
abbrev vwCl : List vw_C := [(RX0, TX0, 3), (RX1, TX1, 10), (RX3, TX3, 3), (RX4, TX4, 7), (RX6, TX6, 4), (RX7, TX7, 12), (RX8, TX8, 4), (RX9, TX9, 4)]
