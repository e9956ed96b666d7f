section
-- ===== PART A: goes FIRST, ahead of the names: the tables' words, and 'selects' of the private methods out of them =====
/-- a private method of a class that the tables say can be made, by its rows of tables_1 -/
def lw_okq (q : MethodName × Nat) : Prop := (q.1.cls ≠ "java/lang/invoke/MethodHandle" ∧ q.1.cls ≠ "java/lang/invoke/VarHandle") ∧ Cond.instantiable q.1.cls q.2 ∈ tables_1 ∧ Cond.privateMethod q.1 ∈ tables_1 ∧ Cond.instanceMethod q.1 ∈ tables_1
theorem lw_p0 : lw_okq (⟨"WindCardShips$Game", "fight", "(LWindCardShips$Ship;LWindCardShips$Ship;)V"⟩, 10) := ⟨⟨by decide +kernel, by decide +kernel⟩, List.mem_of_getElem? (i := 30) (by decide +kernel), List.mem_of_getElem? (i := 267) (by decide +kernel), List.mem_of_getElem? (i := 268) (by decide +kernel)⟩
theorem lw_p1 : lw_okq (⟨"WindCardShips$Game", "capture", "(LWindCardShips$Ship;LWindCardShips$Ship;)V"⟩, 10) := ⟨⟨by decide +kernel, by decide +kernel⟩, List.mem_of_getElem? (i := 30) (by decide +kernel), List.mem_of_getElem? (i := 274) (by decide +kernel), List.mem_of_getElem? (i := 275) (by decide +kernel)⟩
theorem lw_p2 : lw_okq (⟨"WindCardShips$Game", "release", "(LWindCardShips$Ship;)V"⟩, 10) := ⟨⟨by decide +kernel, by decide +kernel⟩, List.mem_of_getElem? (i := 30) (by decide +kernel), List.mem_of_getElem? (i := 278) (by decide +kernel), List.mem_of_getElem? (i := 279) (by decide +kernel)⟩
theorem lw_p3 : lw_okq (⟨"WindCardShips$State", "slotOf", "(I)LWindCardShips$Game;"⟩, 4) := ⟨⟨by decide +kernel, by decide +kernel⟩, List.mem_of_getElem? (i := 24) (by decide +kernel), List.mem_of_getElem? (i := 297) (by decide +kernel), List.mem_of_getElem? (i := 298) (by decide +kernel)⟩
theorem lw_p4 : lw_okq (⟨"WindCardShips$Game", "toldSet", "()I"⟩, 10) := ⟨⟨by decide +kernel, by decide +kernel⟩, List.mem_of_getElem? (i := 30) (by decide +kernel), List.mem_of_getElem? (i := 343) (by decide +kernel), List.mem_of_getElem? (i := 344) (by decide +kernel)⟩
theorem lw_p5 : lw_okq (⟨"WindCardShips$Game", "fleetOf", "(I)I"⟩, 10) := ⟨⟨by decide +kernel, by decide +kernel⟩, List.mem_of_getElem? (i := 30) (by decide +kernel), List.mem_of_getElem? (i := 347) (by decide +kernel), List.mem_of_getElem? (i := 348) (by decide +kernel)⟩
theorem lw_p6 : lw_okq (⟨"WindCardShips$Game", "islandCount", "()I"⟩, 10) := ⟨⟨by decide +kernel, by decide +kernel⟩, List.mem_of_getElem? (i := 30) (by decide +kernel), List.mem_of_getElem? (i := 355) (by decide +kernel), List.mem_of_getElem? (i := 356) (by decide +kernel)⟩
theorem lw_p7 : lw_okq (⟨"WindCardShips$Game", "shipOn", "(I)LWindCardShips$Ship;"⟩, 10) := ⟨⟨by decide +kernel, by decide +kernel⟩, List.mem_of_getElem? (i := 30) (by decide +kernel), List.mem_of_getElem? (i := 389) (by decide +kernel), List.mem_of_getElem? (i := 390) (by decide +kernel)⟩
theorem lw_p8 : lw_okq (⟨"WindCardShips$Game", "isIsland", "(I)Z"⟩, 10) := ⟨⟨by decide +kernel, by decide +kernel⟩, List.mem_of_getElem? (i := 30) (by decide +kernel), List.mem_of_getElem? (i := 402) (by decide +kernel), List.mem_of_getElem? (i := 403) (by decide +kernel)⟩
theorem lw_p9 : lw_okq (⟨"WindCardShips$Game", "isFree", "(I)Z"⟩, 10) := ⟨⟨by decide +kernel, by decide +kernel⟩, List.mem_of_getElem? (i := 30) (by decide +kernel), List.mem_of_getElem? (i := 418) (by decide +kernel), List.mem_of_getElem? (i := 419) (by decide +kernel)⟩
theorem lw_p10 : lw_okq (⟨"WindCardShips$Ship", "speedFactor", "(I)I"⟩, 12) := ⟨⟨by decide +kernel, by decide +kernel⟩, List.mem_of_getElem? (i := 56) (by decide +kernel), List.mem_of_getElem? (i := 444) (by decide +kernel), List.mem_of_getElem? (i := 445) (by decide +kernel)⟩
theorem lw_p11 : lw_okq (⟨"WindCardShips$Game", "captainOf", "(I)LWindCardShips$Captain;"⟩, 10) := ⟨⟨by decide +kernel, by decide +kernel⟩, List.mem_of_getElem? (i := 30) (by decide +kernel), List.mem_of_getElem? (i := 464) (by decide +kernel), List.mem_of_getElem? (i := 465) (by decide +kernel)⟩
theorem lw_p12 : lw_okq (⟨"WindCardShips$Game", "hullsOf", "(I)I"⟩, 10) := ⟨⟨by decide +kernel, by decide +kernel⟩, List.mem_of_getElem? (i := 30) (by decide +kernel), List.mem_of_getElem? (i := 468) (by decide +kernel), List.mem_of_getElem? (i := 469) (by decide +kernel)⟩
theorem lw_p13 : lw_okq (⟨"WindCardShips$Game", "distanceAlong", "(IILWindCardShips$Ship;)I"⟩, 10) := ⟨⟨by decide +kernel, by decide +kernel⟩, List.mem_of_getElem? (i := 30) (by decide +kernel), List.mem_of_getElem? (i := 487) (by decide +kernel), List.mem_of_getElem? (i := 488) (by decide +kernel)⟩
theorem lw_p14 : lw_okq (⟨"WindCardShips$Routes", "note", "(III)V"⟩, 4) := ⟨⟨by decide +kernel, by decide +kernel⟩, List.mem_of_getElem? (i := 200) (by decide +kernel), List.mem_of_getElem? (i := 514) (by decide +kernel), List.mem_of_getElem? (i := 515) (by decide +kernel)⟩
theorem lw_p15 : lw_okq (⟨"WindCardShips$Routes", "spread", "(LWindCardShips$Game;LWindCardShips$Ship;II)V"⟩, 4) := ⟨⟨by decide +kernel, by decide +kernel⟩, List.mem_of_getElem? (i := 200) (by decide +kernel), List.mem_of_getElem? (i := 523) (by decide +kernel), List.mem_of_getElem? (i := 524) (by decide +kernel)⟩
def lw_privs_1 : List (MethodName × Nat) := [(⟨"WindCardShips$Game", "fight", "(LWindCardShips$Ship;LWindCardShips$Ship;)V"⟩, 10), (⟨"WindCardShips$Game", "capture", "(LWindCardShips$Ship;LWindCardShips$Ship;)V"⟩, 10), (⟨"WindCardShips$Game", "release", "(LWindCardShips$Ship;)V"⟩, 10), (⟨"WindCardShips$State", "slotOf", "(I)LWindCardShips$Game;"⟩, 4), (⟨"WindCardShips$Game", "toldSet", "()I"⟩, 10), (⟨"WindCardShips$Game", "fleetOf", "(I)I"⟩, 10), (⟨"WindCardShips$Game", "islandCount", "()I"⟩, 10), (⟨"WindCardShips$Game", "shipOn", "(I)LWindCardShips$Ship;"⟩, 10), (⟨"WindCardShips$Game", "isIsland", "(I)Z"⟩, 10), (⟨"WindCardShips$Game", "isFree", "(I)Z"⟩, 10), (⟨"WindCardShips$Ship", "speedFactor", "(I)I"⟩, 12), (⟨"WindCardShips$Game", "captainOf", "(I)LWindCardShips$Captain;"⟩, 10), (⟨"WindCardShips$Game", "hullsOf", "(I)I"⟩, 10), (⟨"WindCardShips$Game", "distanceAlong", "(IILWindCardShips$Ship;)I"⟩, 10), (⟨"WindCardShips$Routes", "note", "(III)V"⟩, 4), (⟨"WindCardShips$Routes", "spread", "(LWindCardShips$Game;LWindCardShips$Ship;II)V"⟩, 4)]
theorem lw_r1 : ∀ q ∈ lw_privs_1, lw_okq q := List.forall_mem_cons.mpr ⟨lw_p0, List.forall_mem_cons.mpr ⟨lw_p1, List.forall_mem_cons.mpr ⟨lw_p2, List.forall_mem_cons.mpr ⟨lw_p3, List.forall_mem_cons.mpr ⟨lw_p4, List.forall_mem_cons.mpr ⟨lw_p5, List.forall_mem_cons.mpr ⟨lw_p6, List.forall_mem_cons.mpr ⟨lw_p7, List.forall_mem_cons.mpr ⟨lw_p8, List.forall_mem_cons.mpr ⟨lw_p9, List.forall_mem_cons.mpr ⟨lw_p10, List.forall_mem_cons.mpr ⟨lw_p11, List.forall_mem_cons.mpr ⟨lw_p12, List.forall_mem_cons.mpr ⟨lw_p13, List.forall_mem_cons.mpr ⟨lw_p14, List.forall_mem_cons.mpr ⟨lw_p15, fun _ h => absurd h List.not_mem_nil⟩⟩⟩⟩⟩⟩⟩⟩⟩⟩⟩⟩⟩⟩⟩⟩
theorem lw_p16 : lw_okq (⟨"WindCardShips$Routes", "bestPath", "(I)I"⟩, 4) := ⟨⟨by decide +kernel, by decide +kernel⟩, List.mem_of_getElem? (i := 200) (by decide +kernel), List.mem_of_getElem? (i := 538) (by decide +kernel), List.mem_of_getElem? (i := 539) (by decide +kernel)⟩
theorem lw_p17 : lw_okq (⟨"WindCardShips$Routes", "headingAt", "(I)I"⟩, 4) := ⟨⟨by decide +kernel, by decide +kernel⟩, List.mem_of_getElem? (i := 200) (by decide +kernel), List.mem_of_getElem? (i := 576) (by decide +kernel), List.mem_of_getElem? (i := 577) (by decide +kernel)⟩
theorem lw_p18 : lw_okq (⟨"WindCardShips$Game", "beginMoves", "()V"⟩, 10) := ⟨⟨by decide +kernel, by decide +kernel⟩, List.mem_of_getElem? (i := 30) (by decide +kernel), List.mem_of_getElem? (i := 689) (by decide +kernel), List.mem_of_getElem? (i := 690) (by decide +kernel)⟩
def lw_privs_2 : List (MethodName × Nat) := [(⟨"WindCardShips$Routes", "bestPath", "(I)I"⟩, 4), (⟨"WindCardShips$Routes", "headingAt", "(I)I"⟩, 4), (⟨"WindCardShips$Game", "beginMoves", "()V"⟩, 10)]
theorem lw_r2 : ∀ q ∈ lw_privs_2, lw_okq q := List.forall_mem_cons.mpr ⟨lw_p16, List.forall_mem_cons.mpr ⟨lw_p17, List.forall_mem_cons.mpr ⟨lw_p18, fun _ h => absurd h List.not_mem_nil⟩⟩⟩
def lw_privs : List (MethodName × Nat) := lw_privs_1 ++ (lw_privs_2)
def lw_tbl : List Cond := k2_sels lw_privs ++ tables_1
theorem lw_privs_ok : ∀ q ∈ lw_privs, lw_okq q := by
  show ∀ q ∈ lw_privs_1 ++ (lw_privs_2), lw_okq q
  exact List.forall_mem_append.mpr ⟨lw_r1, lw_r2⟩
end
section
/-! ===== BEGIN words of one list among another's, by their places ===== -/
theorem goodIn_r {big : List Cond} (ws : List Cond) (ps : List Nat) (hp : ws = ps.filterMap (fun i => big[i]?)) (h : ws.all goodWord = true) : GoodIn big ws := by
  intro w hw
  have h1 := List.all_eq_true.mp h w hw
  rw [hp] at hw
  obtain ⟨i, -, hi⟩ := List.mem_filterMap.mp hw
  have hm : w ∈ big := by first | exact List.mem_of_getElem? hi | exact List.getElem?_mem hi
  exact ⟨hm, good_of_word h1⟩
theorem goodIn_app {big a b : List Cond} (ha : GoodIn big a) (hb : GoodIn big b) : GoodIn big (a ++ b) := fun w h => (List.mem_append.mp h).elim (ha w) (hb w)
theorem goodIn_ca {big a b : List Cond} {c : Cond} (ha : GoodIn big (c :: a)) (hb : GoodIn big b) : GoodIn big (c :: (a ++ b)) := fun w h => (List.mem_cons.mp h).elim (fun e => ha w (List.mem_cons.mpr (Or.inl e))) (fun h => (List.mem_append.mp h).elim (fun h => ha w (List.mem_cons.mpr (Or.inr h))) (hb w))
theorem goodIn_sub {big ws : List Cond} (hm : ∀ w ∈ ws, w ∈ big) (h : ws.all goodWord = true) : GoodIn big ws := fun w hw => ⟨hm w hw, good_of_word (List.all_eq_true.mp h w hw)⟩
/-! ===== END ===== -/

/-! ===== BEGIN printed: names, fields, word lists, decode rows ===== -/
def RX0 : String := "WindCardShips$Captain"
def TX0 : u_T := fun k => match k with
  | 0 => ("WindCardShips$Captain", "hand", "I", false)
  | 1 => ("WindCardShips$Captain", "card", "I", false)
  | _ => ("WindCardShips$Captain", "timber", "I", false)
def tyX0 : Nat → FieldType := fun k => match k with
  | 0 => .int
  | 1 => .int
  | _ => .int
abbrev wsX00 : List Cond := u_ws RX0 TX0 3
theorem nmX0 : ∀ a, a < 3 → ∀ b, b < 3 → a ≠ b → (TX0 a).2.1 ≠ (TX0 b).2.1 := by decide +kernel
theorem tyX0_ok : ∀ k, k < 3 → parseFieldDescriptor (TX0 k).2.2.1 = some (tyX0 k) := by decide +kernel
abbrev cX0_init : ByteArray := prog_2_method_1_code
def yX0_init : MethodName := ⟨RX0, "<init>", "()V"⟩
abbrev cX0_exists : ByteArray := prog_2_method_2_code
def yX0_exists : MethodName := ⟨RX0, "exists", "(I)Z"⟩
abbrev cX0_isCard : ByteArray := prog_2_method_3_code
def yX0_isCard : MethodName := ⟨RX0, "isCard", "(I)Z"⟩
abbrev cX0_copyFrom : ByteArray := prog_2_method_4_code
def yX0_copyFrom : MethodName := ⟨RX0, "copyFrom", "(LWindCardShips$Captain;)V"⟩
abbrev cX0_holds : ByteArray := prog_2_method_5_code
def yX0_holds : MethodName := ⟨RX0, "holds", "(I)Z"⟩
abbrev cX0_layDownCard : ByteArray := prog_2_method_6_code
def yX0_layDownCard : MethodName := ⟨RX0, "layDownCard", "()V"⟩
def RX1 : String := "WindCardShips$Game"
def TX1 : u_T := fun k => match k with
  | 0 => ("WindCardShips$Game", "turn", "I", false)
  | 1 => ("WindCardShips$Game", "moving", "Z", false)
  | 2 => ("WindCardShips$Game", "direction", "I", false)
  | 3 => ("WindCardShips$Game", "windStrength", "I", false)
  | 4 => ("WindCardShips$Game", "shipCount", "I", false)
  | 5 => ("WindCardShips$Game", "captures", "I", false)
  | 6 => ("WindCardShips$Game", "first", "LWindCardShips$Captain;", true)
  | 7 => ("WindCardShips$Game", "second", "LWindCardShips$Captain;", true)
  | 8 => ("WindCardShips$Game", "islands", "[I", true)
  | _ => ("WindCardShips$Game", "ships", "[LWindCardShips$Ship;", true)
def tyX1 : Nat → FieldType := fun k => match k with
  | 0 => .int
  | 1 => .boolean
  | 2 => .int
  | 3 => .int
  | 4 => .int
  | 5 => .int
  | 6 => .object "WindCardShips$Captain"
  | 7 => .object "WindCardShips$Captain"
  | 8 => .array .int
  | _ => .array (.object "WindCardShips$Ship")
abbrev wsX10 : List Cond := u_ws RX1 TX1 10
theorem nmX1 : ∀ a, a < 10 → ∀ b, b < 10 → a ≠ b → (TX1 a).2.1 ≠ (TX1 b).2.1 := by decide +kernel
theorem tyX1_ok : ∀ k, k < 10 → parseFieldDescriptor (TX1 k).2.2.1 = some (tyX1 k) := by decide +kernel
abbrev cX1_init : ByteArray := prog_3_method_1_code
def yX1_init : MethodName := ⟨RX1, "<init>", "()V"⟩
abbrev cX1_copyFrom : ByteArray := prog_3_method_2_code
def yX1_copyFrom : MethodName := ⟨RX1, "copyFrom", "(LWindCardShips$Game;)V"⟩
abbrev cX1_turn : ByteArray := prog_3_method_3_code
def yX1_turn : MethodName := ⟨RX1, "turn", "()I"⟩
abbrev cX1_captainOf : ByteArray := prog_3_method_4_code
def yX1_captainOf : MethodName := ⟨RX1, "captainOf", "(I)LWindCardShips$Captain;"⟩
abbrev cX1_known : ByteArray := prog_3_method_5_code
def yX1_known : MethodName := ⟨RX1, "known", "(I)LWindCardShips$Ship;"⟩
abbrev cX1_shipOn : ByteArray := prog_3_method_6_code
def yX1_shipOn : MethodName := ⟨RX1, "shipOn", "(I)LWindCardShips$Ship;"⟩
abbrev cX1_isIsland : ByteArray := prog_3_method_7_code
def yX1_isIsland : MethodName := ⟨RX1, "isIsland", "(I)Z"⟩
abbrev cX1_isFree : ByteArray := prog_3_method_8_code
def yX1_isFree : MethodName := ⟨RX1, "isFree", "(I)Z"⟩
abbrev cX1_hexAhead : ByteArray := prog_3_method_9_code
def yX1_hexAhead : MethodName := ⟨RX1, "hexAhead", "(LWindCardShips$Ship;II)I"⟩
abbrev cX1_contentOf : ByteArray := prog_3_method_10_code
def yX1_contentOf : MethodName := ⟨RX1, "contentOf", "(I)I"⟩
abbrev cX1_placeIsland : ByteArray := prog_3_method_11_code
def yX1_placeIsland : MethodName := ⟨RX1, "placeIsland", "(II)I"⟩
abbrev cX1_launch : ByteArray := prog_3_method_12_code
def yX1_launch : MethodName := ⟨RX1, "launch", "(IIIIII)I"⟩
abbrev cX1_tellCard : ByteArray := prog_3_method_14_code
def yX1_tellCard : MethodName := ⟨RX1, "tellCard", "(II)I"⟩
abbrev cX1_beginMoves : ByteArray := prog_3_method_15_code
def yX1_beginMoves : MethodName := ⟨RX1, "beginMoves", "()V"⟩
abbrev cX1_directionBy : ByteArray := prog_3_method_16_code
def yX1_directionBy : MethodName := ⟨RX1, "directionBy", "(I)I"⟩
abbrev cX1_strengthBy : ByteArray := prog_3_method_17_code
def yX1_strengthBy : MethodName := ⟨RX1, "strengthBy", "(I)I"⟩
abbrev cX1_toldSet : ByteArray := prog_3_method_18_code
def yX1_toldSet : MethodName := ⟨RX1, "toldSet", "()I"⟩
abbrev cX1_stepsNow : ByteArray := prog_3_method_19_code
def yX1_stepsNow : MethodName := ⟨RX1, "stepsNow", "(LWindCardShips$Ship;)I"⟩
abbrev cX1_sailAlong : ByteArray := prog_3_method_20_code
def yX1_sailAlong : MethodName := ⟨RX1, "sailAlong", "(II)I"⟩
abbrev cX1_fireAt : ByteArray := prog_3_method_21_code
def yX1_fireAt : MethodName := ⟨RX1, "fireAt", "(III)I"⟩
abbrev cX1_shotLength : ByteArray := prog_3_method_22_code
def yX1_shotLength : MethodName := ⟨RX1, "shotLength", "(LWindCardShips$Ship;ILWindCardShips$Ship;)I"⟩
abbrev cX1_distanceAlong : ByteArray := prog_3_method_23_code
def yX1_distanceAlong : MethodName := ⟨RX1, "distanceAlong", "(IILWindCardShips$Ship;)I"⟩
abbrev cX1_targetSet : ByteArray := prog_3_method_24_code
def yX1_targetSet : MethodName := ⟨RX1, "targetSet", "(LWindCardShips$Ship;I)I"⟩
abbrev cX1_threatSet : ByteArray := prog_3_method_25_code
def yX1_threatSet : MethodName := ⟨RX1, "threatSet", "(LWindCardShips$Ship;)I"⟩
abbrev cX1_grappleTwo : ByteArray := prog_3_method_26_code
def yX1_grappleTwo : MethodName := ⟨RX1, "grappleTwo", "(II)I"⟩
abbrev cX1_cutLoose : ByteArray := prog_3_method_27_code
def yX1_cutLoose : MethodName := ⟨RX1, "cutLoose", "(I)I"⟩
abbrev cX1_release : ByteArray := prog_3_method_28_code
def yX1_release : MethodName := ⟨RX1, "release", "(LWindCardShips$Ship;)V"⟩
abbrev cX1_fight : ByteArray := prog_3_method_29_code
def yX1_fight : MethodName := ⟨RX1, "fight", "(LWindCardShips$Ship;LWindCardShips$Ship;)V"⟩
abbrev cX1_capture : ByteArray := prog_3_method_30_code
def yX1_capture : MethodName := ⟨RX1, "capture", "(LWindCardShips$Ship;LWindCardShips$Ship;)V"⟩
abbrev cX1_mend : ByteArray := prog_3_method_31_code
def yX1_mend : MethodName := ⟨RX1, "mend", "(II)I"⟩
abbrev cX1_mendable : ByteArray := prog_3_method_32_code
def yX1_mendable : MethodName := ⟨RX1, "mendable", "(LWindCardShips$Ship;II)I"⟩
abbrev cX1_endTurn : ByteArray := prog_3_method_33_code
def yX1_endTurn : MethodName := ⟨RX1, "endTurn", "()I"⟩
abbrev cX1_tally : ByteArray := prog_3_method_34_code
def yX1_tally : MethodName := ⟨RX1, "tally", "(I)I"⟩
abbrev cX1_islandCount : ByteArray := prog_3_method_35_code
def yX1_islandCount : MethodName := ⟨RX1, "islandCount", "()I"⟩
abbrev cX1_fleetOf : ByteArray := prog_3_method_36_code
def yX1_fleetOf : MethodName := ⟨RX1, "fleetOf", "(I)I"⟩
abbrev cX1_hullsOf : ByteArray := prog_3_method_37_code
def yX1_hullsOf : MethodName := ⟨RX1, "hullsOf", "(I)I"⟩
abbrev cX1_strengthOf : ByteArray := prog_3_method_38_code
def yX1_strengthOf : MethodName := ⟨RX1, "strengthOf", "(I)I"⟩
abbrev cX1_tellOfCaptain : ByteArray := prog_3_method_39_code
def yX1_tellOfCaptain : MethodName := ⟨RX1, "tellOfCaptain", "(II)I"⟩
abbrev cX1_tellOfShip : ByteArray := prog_3_method_40_code
def yX1_tellOfShip : MethodName := ⟨RX1, "tellOfShip", "(LWindCardShips$Ship;I)I"⟩
def RX2 : String := "WindCardShips$Hexes"
def TX2 : u_T := fun k => match k with
  | _ => ("", "", "", false)
def tyX2 : Nat → FieldType := fun k => match k with
  | _ => .int
abbrev wsX20 : List Cond := u_ws RX2 TX2 0
theorem nmX2 : ∀ a, a < 0 → ∀ b, b < 0 → a ≠ b → (TX2 a).2.1 ≠ (TX2 b).2.1 := by decide +kernel
theorem tyX2_ok : ∀ k, k < 0 → parseFieldDescriptor (TX2 k).2.2.1 = some (tyX2 k) := by decide +kernel
abbrev cX2_exists : ByteArray := prog_4_method_2_code
def yX2_exists : MethodName := ⟨RX2, "exists", "(I)Z"⟩
abbrev cX2_isDirection : ByteArray := prog_4_method_3_code
def yX2_isDirection : MethodName := ⟨RX2, "isDirection", "(I)Z"⟩
abbrev cX2_next : ByteArray := prog_4_method_4_code
def yX2_next : MethodName := ⟨RX2, "next", "(II)I"⟩
abbrev cX2_areNeighbors : ByteArray := prog_4_method_5_code
def yX2_areNeighbors : MethodName := ⟨RX2, "areNeighbors", "(II)Z"⟩
abbrev cX2_rowStep : ByteArray := prog_4_method_6_code
def yX2_rowStep : MethodName := ⟨RX2, "rowStep", "(I)I"⟩
abbrev cX2_columnStep : ByteArray := prog_4_method_7_code
def yX2_columnStep : MethodName := ⟨RX2, "columnStep", "(I)I"⟩
def RX3 : String := "WindCardShips$History"
def TX3 : u_T := fun k => match k with
  | 0 => ("WindCardShips$History", "rows", "[LWindCardShips$State;", true)
  | 1 => ("WindCardShips$History", "aside", "LWindCardShips$State;", false)
  | _ => ("WindCardShips$History", "size", "I", false)
def tyX3 : Nat → FieldType := fun k => match k with
  | 0 => .array (.object "WindCardShips$State")
  | 1 => .object "WindCardShips$State"
  | _ => .int
abbrev wsX30 : List Cond := u_ws RX3 TX3 3
theorem nmX3 : ∀ a, a < 3 → ∀ b, b < 3 → a ≠ b → (TX3 a).2.1 ≠ (TX3 b).2.1 := by decide +kernel
theorem tyX3_ok : ∀ k, k < 3 → parseFieldDescriptor (TX3 k).2.2.1 = some (tyX3 k) := by decide +kernel
abbrev cX3_init : ByteArray := prog_5_method_1_code
def yX3_init : MethodName := ⟨RX3, "<init>", "()V"⟩
abbrev cX3_size : ByteArray := prog_5_method_2_code
def yX3_size : MethodName := ⟨RX3, "size", "()I"⟩
abbrev cX3_keepAside : ByteArray := prog_5_method_3_code
def yX3_keepAside : MethodName := ⟨RX3, "keepAside", "(LWindCardShips$State;)V"⟩
abbrev cX3_settle : ByteArray := prog_5_method_4_code
def yX3_settle : MethodName := ⟨RX3, "settle", "(I)I"⟩
abbrev cX3_stepBack : ByteArray := prog_5_method_5_code
def yX3_stepBack : MethodName := ⟨RX3, "stepBack", "(LWindCardShips$State;)I"⟩
def RX4 : String := "WindCardShips$Orders"
def TX4 : u_T := fun k => match k with
  | 0 => ("WindCardShips$Orders", "signs", "[I", true)
  | 1 => ("WindCardShips$Orders", "length", "I", false)
  | 2 => ("WindCardShips$Orders", "at", "I", false)
  | 3 => ("WindCardShips$Orders", "letter", "I", false)
  | 4 => ("WindCardShips$Orders", "one", "I", false)
  | 5 => ("WindCardShips$Orders", "two", "I", false)
  | _ => ("WindCardShips$Orders", "three", "I", false)
def tyX4 : Nat → FieldType := fun k => match k with
  | 0 => .array .int
  | 1 => .int
  | 2 => .int
  | 3 => .int
  | 4 => .int
  | 5 => .int
  | _ => .int
abbrev wsX40 : List Cond := u_ws RX4 TX4 7
theorem nmX4 : ∀ a, a < 7 → ∀ b, b < 7 → a ≠ b → (TX4 a).2.1 ≠ (TX4 b).2.1 := by decide +kernel
theorem tyX4_ok : ∀ k, k < 7 → parseFieldDescriptor (TX4 k).2.2.1 = some (tyX4 k) := by decide +kernel
abbrev cX4_init : ByteArray := prog_6_method_1_code
def yX4_init : MethodName := ⟨RX4, "<init>", "()V"⟩
abbrev cX4_length : ByteArray := prog_6_method_2_code
def yX4_length : MethodName := ⟨RX4, "length", "()I"⟩
def RX5 : String := "WindCardShips$Path"
def TX5 : u_T := fun k => match k with
  | _ => ("", "", "", false)
def tyX5 : Nat → FieldType := fun k => match k with
  | _ => .int
abbrev wsX50 : List Cond := u_ws RX5 TX5 0
theorem nmX5 : ∀ a, a < 0 → ∀ b, b < 0 → a ≠ b → (TX5 a).2.1 ≠ (TX5 b).2.1 := by decide +kernel
theorem tyX5_ok : ∀ k, k < 0 → parseFieldDescriptor (TX5 k).2.2.1 = some (tyX5 k) := by decide +kernel
abbrev cX5_isPath : ByteArray := prog_7_method_2_code
def yX5_isPath : MethodName := ⟨RX5, "isPath", "(I)Z"⟩
abbrev cX5_stepsOf : ByteArray := prog_7_method_3_code
def yX5_stepsOf : MethodName := ⟨RX5, "stepsOf", "(I)I"⟩
abbrev cX5_unitOf : ByteArray := prog_7_method_4_code
def yX5_unitOf : MethodName := ⟨RX5, "unitOf", "(I)I"⟩
abbrev cX5_turned : ByteArray := prog_7_method_5_code
def yX5_turned : MethodName := ⟨RX5, "turned", "(II)I"⟩
def RX6 : String := "WindCardShips$Routes"
def TX6 : u_T := fun k => match k with
  | 0 => ("WindCardShips$Routes", "pathTo", "[I", true)
  | 1 => ("WindCardShips$Routes", "queue", "[I", true)
  | 2 => ("WindCardShips$Routes", "arrival", "[I", true)
  | _ => ("WindCardShips$Routes", "queued", "I", false)
def tyX6 : Nat → FieldType := fun k => match k with
  | 0 => .array .int
  | 1 => .array .int
  | 2 => .array .int
  | _ => .int
abbrev wsX60 : List Cond := u_ws RX6 TX6 4
theorem nmX6 : ∀ a, a < 4 → ∀ b, b < 4 → a ≠ b → (TX6 a).2.1 ≠ (TX6 b).2.1 := by decide +kernel
theorem tyX6_ok : ∀ k, k < 4 → parseFieldDescriptor (TX6 k).2.2.1 = some (tyX6 k) := by decide +kernel
abbrev cX6_init : ByteArray := prog_8_method_1_code
def yX6_init : MethodName := ⟨RX6, "<init>", "()V"⟩
abbrev cX6_explore : ByteArray := prog_8_method_2_code
def yX6_explore : MethodName := ⟨RX6, "explore", "(LWindCardShips$Game;LWindCardShips$Ship;I)V"⟩
abbrev cX6_spread : ByteArray := prog_8_method_3_code
def yX6_spread : MethodName := ⟨RX6, "spread", "(LWindCardShips$Game;LWindCardShips$Ship;II)V"⟩
abbrev cX6_note : ByteArray := prog_8_method_4_code
def yX6_note : MethodName := ⟨RX6, "note", "(III)V"⟩
abbrev cX6_bestPath : ByteArray := prog_8_method_5_code
def yX6_bestPath : MethodName := ⟨RX6, "bestPath", "(I)I"⟩
abbrev cX6_tellOfWay : ByteArray := prog_8_method_7_code
def yX6_tellOfWay : MethodName := ⟨RX6, "tellOfWay", "(II)I"⟩
abbrev cX6_headingAt : ByteArray := prog_8_method_8_code
def yX6_headingAt : MethodName := ⟨RX6, "headingAt", "(I)I"⟩
abbrev cX6_reachedHexes : ByteArray := prog_8_method_9_code
def yX6_reachedHexes : MethodName := ⟨RX6, "reachedHexes", "()I"⟩
def RX7 : String := "WindCardShips$Ship"
def TX7 : u_T := fun k => match k with
  | 0 => ("WindCardShips$Ship", "number", "I", true)
  | 1 => ("WindCardShips$Ship", "captain", "I", false)
  | 2 => ("WindCardShips$Ship", "hex", "I", false)
  | 3 => ("WindCardShips$Ship", "heading", "I", false)
  | 4 => ("WindCardShips$Ship", "hull", "I", false)
  | 5 => ("WindCardShips$Ship", "sails", "I", false)
  | 6 => ("WindCardShips$Ship", "crew", "I", false)
  | 7 => ("WindCardShips$Ship", "guns", "I", false)
  | 8 => ("WindCardShips$Ship", "grappledWith", "I", false)
  | 9 => ("WindCardShips$Ship", "leftReady", "I", false)
  | 10 => ("WindCardShips$Ship", "rightReady", "I", false)
  | _ => ("WindCardShips$Ship", "done", "I", false)
def tyX7 : Nat → FieldType := fun k => match k with
  | 0 => .int
  | 1 => .int
  | 2 => .int
  | 3 => .int
  | 4 => .int
  | 5 => .int
  | 6 => .int
  | 7 => .int
  | 8 => .int
  | 9 => .int
  | 10 => .int
  | _ => .int
abbrev wsX70 : List Cond := u_ws RX7 TX7 12
theorem nmX7 : ∀ a, a < 12 → ∀ b, b < 12 → a ≠ b → (TX7 a).2.1 ≠ (TX7 b).2.1 := by decide +kernel
theorem tyX7_ok : ∀ k, k < 12 → parseFieldDescriptor (TX7 k).2.2.1 = some (tyX7 k) := by decide +kernel
abbrev cX7_init : ByteArray := prog_9_method_1_code
def yX7_init : MethodName := ⟨RX7, "<init>", "(I)V"⟩
abbrev cX7_hasSide : ByteArray := prog_9_method_2_code
def yX7_hasSide : MethodName := ⟨RX7, "hasSide", "(I)Z"⟩
abbrev cX7_copyFrom : ByteArray := prog_9_method_3_code
def yX7_copyFrom : MethodName := ⟨RX7, "copyFrom", "(LWindCardShips$Ship;)V"⟩
abbrev cX7_floats : ByteArray := prog_9_method_4_code
def yX7_floats : MethodName := ⟨RX7, "floats", "()Z"⟩
abbrev cX7_isGrappled : ByteArray := prog_9_method_5_code
def yX7_isGrappled : MethodName := ⟨RX7, "isGrappled", "()Z"⟩
abbrev cX7_has : ByteArray := prog_9_method_6_code
def yX7_has : MethodName := ⟨RX7, "has", "(I)Z"⟩
abbrev cX7_stepsBy : ByteArray := prog_9_method_7_code
def yX7_stepsBy : MethodName := ⟨RX7, "stepsBy", "(II)I"⟩
abbrev cX7_speedFactor : ByteArray := prog_9_method_8_code
def yX7_speedFactor : MethodName := ⟨RX7, "speedFactor", "(I)I"⟩
abbrev cX7_hitsFrom : ByteArray := prog_9_method_9_code
def yX7_hitsFrom : MethodName := ⟨RX7, "hitsFrom", "(I)I"⟩
abbrev cX7_suffer : ByteArray := prog_9_method_10_code
def yX7_suffer : MethodName := ⟨RX7, "suffer", "(I)V"⟩
abbrev cX7_noteShot : ByteArray := prog_9_method_11_code
def yX7_noteShot : MethodName := ⟨RX7, "noteShot", "(II)V"⟩
abbrev cX7_reloadingSides : ByteArray := prog_9_method_12_code
def yX7_reloadingSides : MethodName := ⟨RX7, "reloadingSides", "(I)I"⟩
abbrev cX7_isReloading : ByteArray := prog_9_method_13_code
def yX7_isReloading : MethodName := ⟨RX7, "isReloading", "(II)Z"⟩
def RX8 : String := "WindCardShips$State"
def TX8 : u_T := fun k => match k with
  | 0 => ("WindCardShips$State", "game", "LWindCardShips$Game;", true)
  | 1 => ("WindCardShips$State", "firstSlot", "LWindCardShips$Game;", true)
  | 2 => ("WindCardShips$State", "secondSlot", "LWindCardShips$Game;", true)
  | _ => ("WindCardShips$State", "taken", "I", false)
def tyX8 : Nat → FieldType := fun k => match k with
  | 0 => .object "WindCardShips$Game"
  | 1 => .object "WindCardShips$Game"
  | 2 => .object "WindCardShips$Game"
  | _ => .int
abbrev wsX80 : List Cond := u_ws RX8 TX8 4
theorem nmX8 : ∀ a, a < 4 → ∀ b, b < 4 → a ≠ b → (TX8 a).2.1 ≠ (TX8 b).2.1 := by decide +kernel
theorem tyX8_ok : ∀ k, k < 4 → parseFieldDescriptor (TX8 k).2.2.1 = some (tyX8 k) := by decide +kernel
abbrev cX8_init : ByteArray := prog_10_method_1_code
def yX8_init : MethodName := ⟨RX8, "<init>", "()V"⟩
abbrev cX8_copyFrom : ByteArray := prog_10_method_2_code
def yX8_copyFrom : MethodName := ⟨RX8, "copyFrom", "(LWindCardShips$State;)V"⟩
abbrev cX8_fillSlot : ByteArray := prog_10_method_3_code
def yX8_fillSlot : MethodName := ⟨RX8, "fillSlot", "(I)I"⟩
abbrev cX8_resumeSlot : ByteArray := prog_10_method_4_code
def yX8_resumeSlot : MethodName := ⟨RX8, "resumeSlot", "(I)I"⟩
abbrev cX8_slotOf : ByteArray := prog_10_method_5_code
def yX8_slotOf : MethodName := ⟨RX8, "slotOf", "(I)LWindCardShips$Game;"⟩
def RX9 : String := "WindCardShips"
def TX9 : u_T := fun k => match k with
  | 0 => ("WindCardShips", "state", "LWindCardShips$State;", true)
  | 1 => ("WindCardShips", "history", "LWindCardShips$History;", true)
  | 2 => ("WindCardShips", "orders", "LWindCardShips$Orders;", true)
  | _ => ("WindCardShips", "routes", "LWindCardShips$Routes;", true)
def tyX9 : Nat → FieldType := fun k => match k with
  | 0 => .object "WindCardShips$State"
  | 1 => .object "WindCardShips$History"
  | 2 => .object "WindCardShips$Orders"
  | _ => .object "WindCardShips$Routes"
abbrev wsX90 : List Cond := u_ws RX9 TX9 4
theorem nmX9 : ∀ a, a < 4 → ∀ b, b < 4 → a ≠ b → (TX9 a).2.1 ≠ (TX9 b).2.1 := by decide +kernel
theorem tyX9_ok : ∀ k, k < 4 → parseFieldDescriptor (TX9 k).2.2.1 = some (tyX9 k) := by decide +kernel
abbrev cX9_init : ByteArray := prog_1_method_1_code
def yX9_init : MethodName := ⟨RX9, "<init>", "()V"⟩
abbrev cX9_setIsland : ByteArray := prog_1_method_2_code
def yX9_setIsland : MethodName := ⟨RX9, "setIsland", "(II)I"⟩
abbrev cX9_addShip : ByteArray := prog_1_method_3_code
def yX9_addShip : MethodName := ⟨RX9, "addShip", "(IIIIII)I"⟩
abbrev cX9_tell : ByteArray := prog_1_method_5_code
def yX9_tell : MethodName := ⟨RX9, "tell", "(II)I"⟩
abbrev cX9_sail : ByteArray := prog_1_method_6_code
def yX9_sail : MethodName := ⟨RX9, "sail", "(II)I"⟩
abbrev cX9_fire : ByteArray := prog_1_method_7_code
def yX9_fire : MethodName := ⟨RX9, "fire", "(III)I"⟩
abbrev cX9_grapple : ByteArray := prog_1_method_8_code
def yX9_grapple : MethodName := ⟨RX9, "grapple", "(II)I"⟩
abbrev cX9_cut : ByteArray := prog_1_method_9_code
def yX9_cut : MethodName := ⟨RX9, "cut", "(I)I"⟩
abbrev cX9_repair : ByteArray := prog_1_method_10_code
def yX9_repair : MethodName := ⟨RX9, "repair", "(II)I"⟩
abbrev cX9_end : ByteArray := prog_1_method_11_code
def yX9_end : MethodName := ⟨RX9, "end", "()I"⟩
abbrev cX9_take : ByteArray := prog_1_method_12_code
def yX9_take : MethodName := ⟨RX9, "take", "(I)I"⟩
abbrev cX9_restore : ByteArray := prog_1_method_13_code
def yX9_restore : MethodName := ⟨RX9, "restore", "(I)I"⟩
abbrev cX9_undo : ByteArray := prog_1_method_14_code
def yX9_undo : MethodName := ⟨RX9, "undo", "()I"⟩
abbrev cX9_count : ByteArray := prog_1_method_18_code
def yX9_count : MethodName := ⟨RX9, "count", "(I)I"⟩
abbrev cX9_captain : ByteArray := prog_1_method_19_code
def yX9_captain : MethodName := ⟨RX9, "captain", "(II)I"⟩
abbrev cX9_ship : ByteArray := prog_1_method_20_code
def yX9_ship : MethodName := ⟨RX9, "ship", "(II)I"⟩
abbrev cX9_on : ByteArray := prog_1_method_21_code
def yX9_on : MethodName := ⟨RX9, "on", "(I)I"⟩
abbrev cX9_targets : ByteArray := prog_1_method_22_code
def yX9_targets : MethodName := ⟨RX9, "targets", "(II)I"⟩
abbrev cX9_hits : ByteArray := prog_1_method_23_code
def yX9_hits : MethodName := ⟨RX9, "hits", "(III)I"⟩
abbrev cX9_way : ByteArray := prog_1_method_24_code
def yX9_way : MethodName := ⟨RX9, "way", "(III)I"⟩
abbrev cX9_reach : ByteArray := prog_1_method_25_code
def yX9_reach : MethodName := ⟨RX9, "reach", "(I)I"⟩
abbrev cX9_windBy : ByteArray := prog_1_method_26_code
def yX9_windBy : MethodName := ⟨RX9, "windBy", "(II)I"⟩
abbrev cX9_threats : ByteArray := prog_1_method_28_code
def yX9_threats : MethodName := ⟨RX9, "threats", "(I)I"⟩
abbrev cX9_strength : ByteArray := prog_1_method_29_code
def yX9_strength : MethodName := ⟨RX9, "strength", "(I)I"⟩
def RX10 : String := "WindCardShipsModel"
def TX10 : u_T := fun k => match k with
  | _ => ("", "", "", false)
def tyX10 : Nat → FieldType := fun k => match k with
  | _ => .int
abbrev wsX100 : List Cond := u_ws RX10 TX10 0
theorem nmX10 : ∀ a, a < 0 → ∀ b, b < 0 → a ≠ b → (TX10 a).2.1 ≠ (TX10 b).2.1 := by decide +kernel
theorem tyX10_ok : ∀ k, k < 0 → parseFieldDescriptor (TX10 k).2.2.1 = some (tyX10 k) := by decide +kernel
def RJ6 : String := "java/lang/Integer"
def TJ6 : u_T := fun k => match k with
  | _ => ("", "", "", false)
def tyJ6 : Nat → FieldType := fun k => match k with
  | _ => .int
abbrev wsJ60 : List Cond := u_ws RJ6 TJ6 0
theorem nmJ6 : ∀ a, a < 0 → ∀ b, b < 0 → a ≠ b → (TJ6 a).2.1 ≠ (TJ6 b).2.1 := by decide +kernel
theorem tyJ6_ok : ∀ k, k < 0 → parseFieldDescriptor (TJ6 k).2.2.1 = some (tyJ6 k) := by decide +kernel
abbrev cJ6_bitCount_0f7a4 : ByteArray := prog_13_method_49_code
def yJ6_bitCount_0f7a4 : MethodName := ⟨RJ6, "bitCount", "(I)I"⟩
def RJ9 : String := "java/lang/Math"
def TJ9 : u_T := fun k => match k with
  | _ => ("", "", "", false)
def tyJ9 : Nat → FieldType := fun k => match k with
  | _ => .int
abbrev wsJ90 : List Cond := u_ws RJ9 TJ9 0
theorem nmJ9 : ∀ a, a < 0 → ∀ b, b < 0 → a ≠ b → (TJ9 a).2.1 ≠ (TJ9 b).2.1 := by decide +kernel
theorem tyJ9_ok : ∀ k, k < 0 → parseFieldDescriptor (TJ9 k).2.2.1 = some (tyJ9 k) := by decide +kernel
abbrev cJ9_max_7cf53 : ByteArray := prog_14_method_65_code
def yJ9_max_7cf53 : MethodName := ⟨RJ9, "max", "(II)I"⟩
abbrev cJ9_min_7cf53 : ByteArray := prog_14_method_69_code
def yJ9_min_7cf53 : MethodName := ⟨RJ9, "min", "(II)I"⟩
def RJ10 : String := "java/lang/System"
def TJ10 : u_T := fun k => match k with
  | _ => ("", "", "", false)
def tyJ10 : Nat → FieldType := fun k => match k with
  | _ => .int
abbrev wsJ100 : List Cond := u_ws RJ10 TJ10 0
theorem nmJ10 : ∀ a, a < 0 → ∀ b, b < 0 → a ≠ b → (TJ10 a).2.1 ≠ (TJ10 b).2.1 := by decide +kernel
theorem tyJ10_ok : ∀ k, k < 0 → parseFieldDescriptor (TJ10 k).2.2.1 = some (tyJ10 k) := by decide +kernel
def RJ7 : String := "java/util/Arrays"
def TJ7 : u_T := fun k => match k with
  | _ => ("", "", "", false)
def tyJ7 : Nat → FieldType := fun k => match k with
  | _ => .int
abbrev wsJ70 : List Cond := u_ws RJ7 TJ7 0
theorem nmJ7 : ∀ a, a < 0 → ∀ b, b < 0 → a ≠ b → (TJ7 a).2.1 ≠ (TJ7 b).2.1 := by decide +kernel
theorem tyJ7_ok : ∀ k, k < 0 → parseFieldDescriptor (TJ7 k).2.2.1 = some (tyJ7 k) := by decide +kernel
abbrev cJ7_fill_53178 : ByteArray := prog_16_method_103_code
def yJ7_fill_53178 : MethodName := ⟨RJ7, "fill", "([II)V"⟩
def RL : String := "WindCardShipsLaw"
abbrev cL_cell : ByteArray := method_2_code
def yL_cell : MethodName := ⟨RL, "cell", "([II)I"⟩
abbrev cL_lays : ByteArray := method_3_code
def yL_lays : MethodName := ⟨RL, "lays", "(LWindCardShips;[I)Z"⟩
abbrev cL_ones : ByteArray := method_4_code
def yL_ones : MethodName := ⟨RL, "ones", "(I)I"⟩
abbrev cL_isAll : ByteArray := method_5_code
def yL_isAll : MethodName := ⟨RL, "isAll", "(LWindCardShips;)Z"⟩
abbrev cL_isWay : ByteArray := method_6_code
def yL_isWay : MethodName := ⟨RL, "isWay", "(LWindCardShips;II)Z"⟩
abbrev cL_acts : ByteArray := method_7_code
def yL_acts : MethodName := ⟨RL, "acts", "(LWindCardShips;I)Z"⟩
abbrev cL_tells : ByteArray := method_8_code
def yL_tells : MethodName := ⟨RL, "tells", "(LWindCardShips;I)Z"⟩
abbrev cL_law : ByteArray := code
def yL_law : MethodName := ⟨RL, "law", "([I)Z"⟩
abbrev vwCl : List vw_C := [(RX0, TX0, 3), (RX1, TX1, 10), (RX3, TX3, 3), (RX4, TX4, 7), (RX6, TX6, 4), (RX7, TX7, 12), (RX8, TX8, 4), (RX9, TX9, 4)]
end
section
def WSa : List Cond := lw_tbl.filter goodWord
theorem wsa_i (i : Nat) (w : Cond) (h : lw_tbl[i]? = some w) (g : goodWord w = true) : w ∈ WSa := List.mem_filter.mpr ⟨List.mem_of_getElem? h, g⟩
theorem wsa_ok {args : Array Value} {s : State} (h : ∀ w ∈ lw_tbl, w.before args s = true) : ∀ w ∈ WSa, w.before args s = true := fun w hw => h w (List.mem_filter.mp hw).1
theorem wsa_good {big : List Cond} (h : ∀ w ∈ WSa, w ∈ big) : GoodIn big WSa := fun w hw => ⟨h w hw, good_of_word (List.mem_filter.mp hw).2⟩
theorem kw0 : Jvm.Cond.selects "WindCardShips$Game" ({ cls := "WindCardShips$Game", name := "fight", desc := "(LWindCardShips$Ship;LWindCardShips$Ship;)V" } : Jvm.MethodName) ({ cls := "WindCardShips$Game", name := "fight", desc := "(LWindCardShips$Ship;LWindCardShips$Ship;)V" } : Jvm.MethodName) ∈ WSa := wsa_i 0 _ (by decide +kernel) (by decide +kernel)
theorem kw1 : Jvm.Cond.selects "WindCardShips$Game" ({ cls := "WindCardShips$Game", name := "capture", desc := "(LWindCardShips$Ship;LWindCardShips$Ship;)V" } : Jvm.MethodName) ({ cls := "WindCardShips$Game", name := "capture", desc := "(LWindCardShips$Ship;LWindCardShips$Ship;)V" } : Jvm.MethodName) ∈ WSa := wsa_i 1 _ (by decide +kernel) (by decide +kernel)
theorem kw2 : Jvm.Cond.selects "WindCardShips$Game" ({ cls := "WindCardShips$Game", name := "release", desc := "(LWindCardShips$Ship;)V" } : Jvm.MethodName) ({ cls := "WindCardShips$Game", name := "release", desc := "(LWindCardShips$Ship;)V" } : Jvm.MethodName) ∈ WSa := wsa_i 2 _ (by decide +kernel) (by decide +kernel)
theorem kw3 : Jvm.Cond.selects "WindCardShips$State" ({ cls := "WindCardShips$State", name := "slotOf", desc := "(I)LWindCardShips$Game;" } : Jvm.MethodName) ({ cls := "WindCardShips$State", name := "slotOf", desc := "(I)LWindCardShips$Game;" } : Jvm.MethodName) ∈ WSa := wsa_i 3 _ (by decide +kernel) (by decide +kernel)
theorem kw4 : Jvm.Cond.selects "WindCardShips$Game" ({ cls := "WindCardShips$Game", name := "toldSet", desc := "()I" } : Jvm.MethodName) ({ cls := "WindCardShips$Game", name := "toldSet", desc := "()I" } : Jvm.MethodName) ∈ WSa := wsa_i 4 _ (by decide +kernel) (by decide +kernel)
theorem kw5 : Jvm.Cond.selects "WindCardShips$Game" ({ cls := "WindCardShips$Game", name := "fleetOf", desc := "(I)I" } : Jvm.MethodName) ({ cls := "WindCardShips$Game", name := "fleetOf", desc := "(I)I" } : Jvm.MethodName) ∈ WSa := wsa_i 5 _ (by decide +kernel) (by decide +kernel)
theorem kw6 : Jvm.Cond.selects "WindCardShips$Game" ({ cls := "WindCardShips$Game", name := "islandCount", desc := "()I" } : Jvm.MethodName) ({ cls := "WindCardShips$Game", name := "islandCount", desc := "()I" } : Jvm.MethodName) ∈ WSa := wsa_i 6 _ (by decide +kernel) (by decide +kernel)
theorem kw7 : Jvm.Cond.selects "WindCardShips$Game" ({ cls := "WindCardShips$Game", name := "shipOn", desc := "(I)LWindCardShips$Ship;" } : Jvm.MethodName) ({ cls := "WindCardShips$Game", name := "shipOn", desc := "(I)LWindCardShips$Ship;" } : Jvm.MethodName) ∈ WSa := wsa_i 7 _ (by decide +kernel) (by decide +kernel)
theorem kw8 : Jvm.Cond.selects "WindCardShips$Game" ({ cls := "WindCardShips$Game", name := "isIsland", desc := "(I)Z" } : Jvm.MethodName) ({ cls := "WindCardShips$Game", name := "isIsland", desc := "(I)Z" } : Jvm.MethodName) ∈ WSa := wsa_i 8 _ (by decide +kernel) (by decide +kernel)
theorem kw9 : Jvm.Cond.selects "WindCardShips$Game" ({ cls := "WindCardShips$Game", name := "isFree", desc := "(I)Z" } : Jvm.MethodName) ({ cls := "WindCardShips$Game", name := "isFree", desc := "(I)Z" } : Jvm.MethodName) ∈ WSa := wsa_i 9 _ (by decide +kernel) (by decide +kernel)
theorem kw10 : Jvm.Cond.selects "WindCardShips$Ship" ({ cls := "WindCardShips$Ship", name := "speedFactor", desc := "(I)I" } : Jvm.MethodName) ({ cls := "WindCardShips$Ship", name := "speedFactor", desc := "(I)I" } : Jvm.MethodName) ∈ WSa := wsa_i 10 _ (by decide +kernel) (by decide +kernel)
theorem kw11 : Jvm.Cond.selects "WindCardShips$Game" ({ cls := "WindCardShips$Game", name := "captainOf", desc := "(I)LWindCardShips$Captain;" } : Jvm.MethodName) ({ cls := "WindCardShips$Game", name := "captainOf", desc := "(I)LWindCardShips$Captain;" } : Jvm.MethodName) ∈ WSa := wsa_i 11 _ (by decide +kernel) (by decide +kernel)
theorem kw12 : Jvm.Cond.selects "WindCardShips$Game" ({ cls := "WindCardShips$Game", name := "hullsOf", desc := "(I)I" } : Jvm.MethodName) ({ cls := "WindCardShips$Game", name := "hullsOf", desc := "(I)I" } : Jvm.MethodName) ∈ WSa := wsa_i 12 _ (by decide +kernel) (by decide +kernel)
theorem kw13 : Jvm.Cond.selects "WindCardShips$Game" ({ cls := "WindCardShips$Game", name := "distanceAlong", desc := "(IILWindCardShips$Ship;)I" } : Jvm.MethodName) ({ cls := "WindCardShips$Game", name := "distanceAlong", desc := "(IILWindCardShips$Ship;)I" } : Jvm.MethodName) ∈ WSa := wsa_i 13 _ (by decide +kernel) (by decide +kernel)
theorem kw14 : Jvm.Cond.selects "WindCardShips$Routes" ({ cls := "WindCardShips$Routes", name := "note", desc := "(III)V" } : Jvm.MethodName) ({ cls := "WindCardShips$Routes", name := "note", desc := "(III)V" } : Jvm.MethodName) ∈ WSa := wsa_i 14 _ (by decide +kernel) (by decide +kernel)
theorem kw15 : Jvm.Cond.selects "WindCardShips$Routes" ({ cls := "WindCardShips$Routes", name := "spread", desc := "(LWindCardShips$Game;LWindCardShips$Ship;II)V" } : Jvm.MethodName) ({ cls := "WindCardShips$Routes", name := "spread", desc := "(LWindCardShips$Game;LWindCardShips$Ship;II)V" } : Jvm.MethodName) ∈ WSa := wsa_i 15 _ (by decide +kernel) (by decide +kernel)
theorem kw16 : Jvm.Cond.selects "WindCardShips$Routes" ({ cls := "WindCardShips$Routes", name := "bestPath", desc := "(I)I" } : Jvm.MethodName) ({ cls := "WindCardShips$Routes", name := "bestPath", desc := "(I)I" } : Jvm.MethodName) ∈ WSa := wsa_i 16 _ (by decide +kernel) (by decide +kernel)
theorem kw17 : Jvm.Cond.selects "WindCardShips$Routes" ({ cls := "WindCardShips$Routes", name := "headingAt", desc := "(I)I" } : Jvm.MethodName) ({ cls := "WindCardShips$Routes", name := "headingAt", desc := "(I)I" } : Jvm.MethodName) ∈ WSa := wsa_i 17 _ (by decide +kernel) (by decide +kernel)
theorem kw18 : Jvm.Cond.selects "WindCardShips$Game" ({ cls := "WindCardShips$Game", name := "beginMoves", desc := "()V" } : Jvm.MethodName) ({ cls := "WindCardShips$Game", name := "beginMoves", desc := "()V" } : Jvm.MethodName) ∈ WSa := wsa_i 18 _ (by decide +kernel) (by decide +kernel)
theorem kw19 : Jvm.Cond.initialized "WindCardShipsLaw" ∈ WSa := wsa_i 19 _ (by decide +kernel) (by decide +kernel)
theorem kw20 : Jvm.Cond.initialized "WindCardShips" ∈ WSa := wsa_i 20 _ (by decide +kernel) (by decide +kernel)
theorem kw21 : Jvm.Cond.initialized "WindCardShips$State" ∈ WSa := wsa_i 21 _ (by decide +kernel) (by decide +kernel)
theorem kw22 : Jvm.Cond.initialized "WindCardShips$Game" ∈ WSa := wsa_i 22 _ (by decide +kernel) (by decide +kernel)
theorem kw23 : Jvm.Cond.initialized "WindCardShips$Captain" ∈ WSa := wsa_i 23 _ (by decide +kernel) (by decide +kernel)
theorem kw24 : Jvm.Cond.initialized "WindCardShips$Ship" ∈ WSa := wsa_i 24 _ (by decide +kernel) (by decide +kernel)
theorem kw25 : Jvm.Cond.initialized "WindCardShips$History" ∈ WSa := wsa_i 25 _ (by decide +kernel) (by decide +kernel)
theorem kw26 : Jvm.Cond.initialized "WindCardShips$Orders" ∈ WSa := wsa_i 26 _ (by decide +kernel) (by decide +kernel)
theorem kw27 : Jvm.Cond.initialized "WindCardShips$Routes" ∈ WSa := wsa_i 27 _ (by decide +kernel) (by decide +kernel)
theorem kw28 : Jvm.Cond.initialized "java/lang/System" ∈ WSa := wsa_i 28 _ (by decide +kernel) (by decide +kernel)
theorem kw29 : Jvm.Cond.initialized "java/lang/Integer" ∈ WSa := wsa_i 29 _ (by decide +kernel) (by decide +kernel)
theorem kw30 : Jvm.Cond.initialized "WindCardShips$Hexes" ∈ WSa := wsa_i 30 _ (by decide +kernel) (by decide +kernel)
theorem kw31 : Jvm.Cond.initialized "java/lang/Math" ∈ WSa := wsa_i 31 _ (by decide +kernel) (by decide +kernel)
theorem kw32 : Jvm.Cond.initialized "java/util/Arrays" ∈ WSa := wsa_i 32 _ (by decide +kernel) (by decide +kernel)
theorem kw33 : Jvm.Cond.initialized "WindCardShips$Path" ∈ WSa := wsa_i 33 _ (by decide +kernel) (by decide +kernel)
theorem kw34 : Jvm.Cond.classLink "WindCardShipsLaw" (16 : Nat) "WindCardShips" ∈ WSa := wsa_i 34 _ (by decide +kernel) (by decide +kernel)
theorem kw35 : Jvm.Cond.instantiable "WindCardShips" (4 : Nat) ∈ WSa := wsa_i 35 _ (by decide +kernel) (by decide +kernel)
theorem kw36 : Jvm.Cond.methodLink "WindCardShipsLaw" (92 : Nat) ({ cls := "WindCardShips", name := "<init>", desc := "()V" } : Jvm.MethodName) ∈ WSa := wsa_i 36 _ (by decide +kernel) (by decide +kernel)
theorem kw37 : Jvm.Cond.instanceMethod ({ cls := "WindCardShips", name := "<init>", desc := "()V" } : Jvm.MethodName) ∈ WSa := wsa_i 37 _ (by decide +kernel) (by decide +kernel)
theorem kw38 : Jvm.Cond.code ({ cls := "WindCardShips", name := "<init>", desc := "()V" } : Jvm.MethodName) prog_1_method_1_code (1 : Nat) (Option.none : Option Jvm.ClassFile.FieldType) ∈ WSa := wsa_i 38 _ (by decide +kernel) (by decide +kernel)
theorem kw39 : Jvm.Cond.methodLink "WindCardShips" (1 : Nat) ({ cls := "java/lang/Object", name := "<init>", desc := "()V" } : Jvm.MethodName) ∈ WSa := wsa_i 39 _ (by decide +kernel) (by decide +kernel)
theorem kw40 : Jvm.Cond.instanceMethod ({ cls := "java/lang/Object", name := "<init>", desc := "()V" } : Jvm.MethodName) ∈ WSa := wsa_i 40 _ (by decide +kernel) (by decide +kernel)
theorem kw41 : Jvm.Cond.code ({ cls := "java/lang/Object", name := "<init>", desc := "()V" } : Jvm.MethodName) object_method_1_code (1 : Nat) (Option.none : Option Jvm.ClassFile.FieldType) ∈ WSa := wsa_i 41 _ (by decide +kernel) (by decide +kernel)
theorem kw42 : Jvm.Cond.classLink "WindCardShips" (7 : Nat) "WindCardShips$State" ∈ WSa := wsa_i 42 _ (by decide +kernel) (by decide +kernel)
theorem kw43 : Jvm.Cond.instantiable "WindCardShips$State" (4 : Nat) ∈ WSa := wsa_i 43 _ (by decide +kernel) (by decide +kernel)
theorem kw45 : Jvm.Cond.instanceMethod ({ cls := "WindCardShips$State", name := "<init>", desc := "()V" } : Jvm.MethodName) ∈ WSa := wsa_i 45 _ (by decide +kernel) (by decide +kernel)
theorem kw46 : Jvm.Cond.code ({ cls := "WindCardShips$State", name := "<init>", desc := "()V" } : Jvm.MethodName) prog_10_method_1_code (1 : Nat) (Option.none : Option Jvm.ClassFile.FieldType) ∈ WSa := wsa_i 46 _ (by decide +kernel) (by decide +kernel)
theorem kw47 : Jvm.Cond.methodLink "WindCardShips$State" (3 : Nat) ({ cls := "java/lang/Object", name := "<init>", desc := "()V" } : Jvm.MethodName) ∈ WSa := wsa_i 47 _ (by decide +kernel) (by decide +kernel)
theorem kw48 : Jvm.Cond.classLink "WindCardShips$State" (9 : Nat) "WindCardShips$Game" ∈ WSa := wsa_i 48 _ (by decide +kernel) (by decide +kernel)
theorem kw49 : Jvm.Cond.instantiable "WindCardShips$Game" (10 : Nat) ∈ WSa := wsa_i 49 _ (by decide +kernel) (by decide +kernel)
theorem kw50 : Jvm.Cond.methodLink "WindCardShips$State" (11 : Nat) ({ cls := "WindCardShips$Game", name := "<init>", desc := "()V" } : Jvm.MethodName) ∈ WSa := wsa_i 50 _ (by decide +kernel) (by decide +kernel)
theorem kw51 : Jvm.Cond.instanceMethod ({ cls := "WindCardShips$Game", name := "<init>", desc := "()V" } : Jvm.MethodName) ∈ WSa := wsa_i 51 _ (by decide +kernel) (by decide +kernel)
theorem kw52 : Jvm.Cond.code ({ cls := "WindCardShips$Game", name := "<init>", desc := "()V" } : Jvm.MethodName) prog_3_method_1_code (2 : Nat) (Option.none : Option Jvm.ClassFile.FieldType) ∈ WSa := wsa_i 52 _ (by decide +kernel) (by decide +kernel)
theorem kw53 : Jvm.Cond.methodLink "WindCardShips$Game" (3 : Nat) ({ cls := "java/lang/Object", name := "<init>", desc := "()V" } : Jvm.MethodName) ∈ WSa := wsa_i 53 _ (by decide +kernel) (by decide +kernel)
theorem kw54 : Jvm.Cond.classLink "WindCardShips$Game" (15 : Nat) "WindCardShips$Captain" ∈ WSa := wsa_i 54 _ (by decide +kernel) (by decide +kernel)
theorem kw55 : Jvm.Cond.instantiable "WindCardShips$Captain" (3 : Nat) ∈ WSa := wsa_i 55 _ (by decide +kernel) (by decide +kernel)
theorem kw57 : Jvm.Cond.instanceMethod ({ cls := "WindCardShips$Captain", name := "<init>", desc := "()V" } : Jvm.MethodName) ∈ WSa := wsa_i 57 _ (by decide +kernel) (by decide +kernel)
theorem kw58 : Jvm.Cond.code ({ cls := "WindCardShips$Captain", name := "<init>", desc := "()V" } : Jvm.MethodName) prog_2_method_1_code (1 : Nat) (Option.none : Option Jvm.ClassFile.FieldType) ∈ WSa := wsa_i 58 _ (by decide +kernel) (by decide +kernel)
theorem kw59 : Jvm.Cond.methodLink "WindCardShips$Captain" (3 : Nat) ({ cls := "java/lang/Object", name := "<init>", desc := "()V" } : Jvm.MethodName) ∈ WSa := wsa_i 59 _ (by decide +kernel) (by decide +kernel)
theorem kw60 : Jvm.Cond.fieldLink "WindCardShips$Captain" (11 : Nat) "WindCardShips$Captain" "hand" "I" ∈ WSa := wsa_i 60 _ (by decide +kernel) (by decide +kernel)
theorem kw61 : Jvm.Cond.fieldLink "WindCardShips$Game" (247 : Nat) "WindCardShips$Captain" "hand" "I" ∈ WSa := wsa_i 61 _ (by decide +kernel) (by decide +kernel)
theorem kw62 : Jvm.Cond.fieldLink "WindCardShips$Captain" (15 : Nat) "WindCardShips$Captain" "card" "I" ∈ WSa := wsa_i 62 _ (by decide +kernel) (by decide +kernel)
theorem kw63 : Jvm.Cond.fieldLink "WindCardShips$Game" (133 : Nat) "WindCardShips$Captain" "card" "I" ∈ WSa := wsa_i 63 _ (by decide +kernel) (by decide +kernel)
theorem kw64 : Jvm.Cond.fieldLink "WindCardShips$Captain" (18 : Nat) "WindCardShips$Captain" "timber" "I" ∈ WSa := wsa_i 64 _ (by decide +kernel) (by decide +kernel)
theorem kw65 : Jvm.Cond.fieldLink "WindCardShips$Game" (127 : Nat) "WindCardShips$Captain" "timber" "I" ∈ WSa := wsa_i 65 _ (by decide +kernel) (by decide +kernel)
theorem kw66 : Jvm.Cond.lays "WindCardShips$Captain" "WindCardShips$Captain" "hand" "I" ∈ WSa := wsa_i 66 _ (by decide +kernel) (by decide +kernel)
theorem kw67 : Jvm.Cond.soleField "WindCardShips$Captain" "hand" ∈ WSa := wsa_i 67 _ (by decide +kernel) (by decide +kernel)
theorem kw68 : Jvm.Cond.lays "WindCardShips$Captain" "WindCardShips$Captain" "card" "I" ∈ WSa := wsa_i 68 _ (by decide +kernel) (by decide +kernel)
theorem kw69 : Jvm.Cond.soleField "WindCardShips$Captain" "card" ∈ WSa := wsa_i 69 _ (by decide +kernel) (by decide +kernel)
theorem kw70 : Jvm.Cond.lays "WindCardShips$Captain" "WindCardShips$Captain" "timber" "I" ∈ WSa := wsa_i 70 _ (by decide +kernel) (by decide +kernel)
theorem kw71 : Jvm.Cond.soleField "WindCardShips$Captain" "timber" ∈ WSa := wsa_i 71 _ (by decide +kernel) (by decide +kernel)
theorem kw72 : Jvm.Cond.superclass "WindCardShips$Captain" "java/lang/Object" ∈ WSa := wsa_i 72 _ (by decide +kernel) (by decide +kernel)
theorem kw73 : Jvm.Cond.classLink "WindCardShips$Game" (31 : Nat) "WindCardShips$Ship" ∈ WSa := wsa_i 73 _ (by decide +kernel) (by decide +kernel)
theorem kw75 : Jvm.Cond.instantiable "WindCardShips$Ship" (12 : Nat) ∈ WSa := wsa_i 75 _ (by decide +kernel) (by decide +kernel)
theorem kw76 : Jvm.Cond.methodLink "WindCardShips$Game" (37 : Nat) ({ cls := "WindCardShips$Ship", name := "<init>", desc := "(I)V" } : Jvm.MethodName) ∈ WSa := wsa_i 76 _ (by decide +kernel) (by decide +kernel)
theorem kw77 : Jvm.Cond.instanceMethod ({ cls := "WindCardShips$Ship", name := "<init>", desc := "(I)V" } : Jvm.MethodName) ∈ WSa := wsa_i 77 _ (by decide +kernel) (by decide +kernel)
theorem kw78 : Jvm.Cond.code ({ cls := "WindCardShips$Ship", name := "<init>", desc := "(I)V" } : Jvm.MethodName) prog_9_method_1_code (2 : Nat) (Option.none : Option Jvm.ClassFile.FieldType) ∈ WSa := wsa_i 78 _ (by decide +kernel) (by decide +kernel)
theorem kw79 : Jvm.Cond.methodLink "WindCardShips$Ship" (3 : Nat) ({ cls := "java/lang/Object", name := "<init>", desc := "()V" } : Jvm.MethodName) ∈ WSa := wsa_i 79 _ (by decide +kernel) (by decide +kernel)
theorem kw80 : Jvm.Cond.fieldLink "WindCardShips$Ship" (15 : Nat) "WindCardShips$Ship" "number" "I" ∈ WSa := wsa_i 80 _ (by decide +kernel) (by decide +kernel)
theorem kw81 : Jvm.Cond.fieldLink "WindCardShips$Game" (94 : Nat) "WindCardShips$Ship" "number" "I" ∈ WSa := wsa_i 81 _ (by decide +kernel) (by decide +kernel)
theorem kw82 : Jvm.Cond.fieldLink "WindCardShips$Ship" (18 : Nat) "WindCardShips$Ship" "captain" "I" ∈ WSa := wsa_i 82 _ (by decide +kernel) (by decide +kernel)
theorem kw83 : Jvm.Cond.fieldLink "WindCardShips$Game" (105 : Nat) "WindCardShips$Ship" "captain" "I" ∈ WSa := wsa_i 83 _ (by decide +kernel) (by decide +kernel)
theorem kw84 : Jvm.Cond.fieldLink "WindCardShips$Routes" (33 : Nat) "WindCardShips$Ship" "hex" "I" ∈ WSa := wsa_i 84 _ (by decide +kernel) (by decide +kernel)
theorem kw85 : Jvm.Cond.fieldLink "WindCardShips$Ship" (21 : Nat) "WindCardShips$Ship" "hex" "I" ∈ WSa := wsa_i 85 _ (by decide +kernel) (by decide +kernel)
theorem kw86 : Jvm.Cond.fieldLink "WindCardShips$Game" (73 : Nat) "WindCardShips$Ship" "hex" "I" ∈ WSa := wsa_i 86 _ (by decide +kernel) (by decide +kernel)
theorem kw87 : Jvm.Cond.fieldLink "WindCardShips$Routes" (38 : Nat) "WindCardShips$Ship" "heading" "I" ∈ WSa := wsa_i 87 _ (by decide +kernel) (by decide +kernel)
theorem kw88 : Jvm.Cond.fieldLink "WindCardShips$Ship" (24 : Nat) "WindCardShips$Ship" "heading" "I" ∈ WSa := wsa_i 88 _ (by decide +kernel) (by decide +kernel)
theorem kw89 : Jvm.Cond.fieldLink "WindCardShips$Game" (108 : Nat) "WindCardShips$Ship" "heading" "I" ∈ WSa := wsa_i 89 _ (by decide +kernel) (by decide +kernel)
theorem kw90 : Jvm.Cond.fieldLink "WindCardShips$Ship" (27 : Nat) "WindCardShips$Ship" "hull" "I" ∈ WSa := wsa_i 90 _ (by decide +kernel) (by decide +kernel)
theorem kw91 : Jvm.Cond.fieldLink "WindCardShips$Game" (111 : Nat) "WindCardShips$Ship" "hull" "I" ∈ WSa := wsa_i 91 _ (by decide +kernel) (by decide +kernel)
theorem kw92 : Jvm.Cond.fieldLink "WindCardShips$Ship" (30 : Nat) "WindCardShips$Ship" "sails" "I" ∈ WSa := wsa_i 92 _ (by decide +kernel) (by decide +kernel)
theorem kw93 : Jvm.Cond.fieldLink "WindCardShips$Game" (114 : Nat) "WindCardShips$Ship" "sails" "I" ∈ WSa := wsa_i 93 _ (by decide +kernel) (by decide +kernel)
theorem kw94 : Jvm.Cond.fieldLink "WindCardShips$Ship" (33 : Nat) "WindCardShips$Ship" "crew" "I" ∈ WSa := wsa_i 94 _ (by decide +kernel) (by decide +kernel)
theorem kw95 : Jvm.Cond.fieldLink "WindCardShips$Game" (117 : Nat) "WindCardShips$Ship" "crew" "I" ∈ WSa := wsa_i 95 _ (by decide +kernel) (by decide +kernel)
theorem kw96 : Jvm.Cond.fieldLink "WindCardShips$Ship" (36 : Nat) "WindCardShips$Ship" "guns" "I" ∈ WSa := wsa_i 96 _ (by decide +kernel) (by decide +kernel)
theorem kw97 : Jvm.Cond.fieldLink "WindCardShips$Game" (120 : Nat) "WindCardShips$Ship" "guns" "I" ∈ WSa := wsa_i 97 _ (by decide +kernel) (by decide +kernel)
theorem kw98 : Jvm.Cond.fieldLink "WindCardShips$Ship" (9 : Nat) "WindCardShips$Ship" "grappledWith" "I" ∈ WSa := wsa_i 98 _ (by decide +kernel) (by decide +kernel)
theorem kw99 : Jvm.Cond.fieldLink "WindCardShips$Game" (223 : Nat) "WindCardShips$Ship" "grappledWith" "I" ∈ WSa := wsa_i 99 _ (by decide +kernel) (by decide +kernel)
theorem kw100 : Jvm.Cond.fieldLink "WindCardShips$Ship" (39 : Nat) "WindCardShips$Ship" "leftReady" "I" ∈ WSa := wsa_i 100 _ (by decide +kernel) (by decide +kernel)
theorem kw101 : Jvm.Cond.fieldLink "WindCardShips$Ship" (42 : Nat) "WindCardShips$Ship" "rightReady" "I" ∈ WSa := wsa_i 101 _ (by decide +kernel) (by decide +kernel)
theorem kw102 : Jvm.Cond.fieldLink "WindCardShips$Ship" (45 : Nat) "WindCardShips$Ship" "done" "I" ∈ WSa := wsa_i 102 _ (by decide +kernel) (by decide +kernel)
theorem kw103 : Jvm.Cond.fieldLink "WindCardShips$Game" (186 : Nat) "WindCardShips$Ship" "done" "I" ∈ WSa := wsa_i 103 _ (by decide +kernel) (by decide +kernel)
theorem kw104 : Jvm.Cond.laysFinal "WindCardShips$Ship" "WindCardShips$Ship" "number" "I" ∈ WSa := wsa_i 104 _ (by decide +kernel) (by decide +kernel)
theorem kw105 : Jvm.Cond.soleField "WindCardShips$Ship" "number" ∈ WSa := wsa_i 105 _ (by decide +kernel) (by decide +kernel)
theorem kw106 : Jvm.Cond.lays "WindCardShips$Ship" "WindCardShips$Ship" "captain" "I" ∈ WSa := wsa_i 106 _ (by decide +kernel) (by decide +kernel)
theorem kw107 : Jvm.Cond.soleField "WindCardShips$Ship" "captain" ∈ WSa := wsa_i 107 _ (by decide +kernel) (by decide +kernel)
theorem kw108 : Jvm.Cond.lays "WindCardShips$Ship" "WindCardShips$Ship" "hex" "I" ∈ WSa := wsa_i 108 _ (by decide +kernel) (by decide +kernel)
theorem kw109 : Jvm.Cond.soleField "WindCardShips$Ship" "hex" ∈ WSa := wsa_i 109 _ (by decide +kernel) (by decide +kernel)
theorem kw110 : Jvm.Cond.lays "WindCardShips$Ship" "WindCardShips$Ship" "heading" "I" ∈ WSa := wsa_i 110 _ (by decide +kernel) (by decide +kernel)
theorem kw111 : Jvm.Cond.soleField "WindCardShips$Ship" "heading" ∈ WSa := wsa_i 111 _ (by decide +kernel) (by decide +kernel)
theorem kw112 : Jvm.Cond.lays "WindCardShips$Ship" "WindCardShips$Ship" "hull" "I" ∈ WSa := wsa_i 112 _ (by decide +kernel) (by decide +kernel)
theorem kw113 : Jvm.Cond.soleField "WindCardShips$Ship" "hull" ∈ WSa := wsa_i 113 _ (by decide +kernel) (by decide +kernel)
theorem kw114 : Jvm.Cond.lays "WindCardShips$Ship" "WindCardShips$Ship" "sails" "I" ∈ WSa := wsa_i 114 _ (by decide +kernel) (by decide +kernel)
theorem kw115 : Jvm.Cond.soleField "WindCardShips$Ship" "sails" ∈ WSa := wsa_i 115 _ (by decide +kernel) (by decide +kernel)
theorem kw116 : Jvm.Cond.lays "WindCardShips$Ship" "WindCardShips$Ship" "crew" "I" ∈ WSa := wsa_i 116 _ (by decide +kernel) (by decide +kernel)
theorem kw117 : Jvm.Cond.soleField "WindCardShips$Ship" "crew" ∈ WSa := wsa_i 117 _ (by decide +kernel) (by decide +kernel)
theorem kw118 : Jvm.Cond.lays "WindCardShips$Ship" "WindCardShips$Ship" "guns" "I" ∈ WSa := wsa_i 118 _ (by decide +kernel) (by decide +kernel)
theorem kw119 : Jvm.Cond.soleField "WindCardShips$Ship" "guns" ∈ WSa := wsa_i 119 _ (by decide +kernel) (by decide +kernel)
theorem kw120 : Jvm.Cond.lays "WindCardShips$Ship" "WindCardShips$Ship" "grappledWith" "I" ∈ WSa := wsa_i 120 _ (by decide +kernel) (by decide +kernel)
theorem kw121 : Jvm.Cond.soleField "WindCardShips$Ship" "grappledWith" ∈ WSa := wsa_i 121 _ (by decide +kernel) (by decide +kernel)
theorem kw122 : Jvm.Cond.lays "WindCardShips$Ship" "WindCardShips$Ship" "leftReady" "I" ∈ WSa := wsa_i 122 _ (by decide +kernel) (by decide +kernel)
theorem kw123 : Jvm.Cond.soleField "WindCardShips$Ship" "leftReady" ∈ WSa := wsa_i 123 _ (by decide +kernel) (by decide +kernel)
theorem kw124 : Jvm.Cond.lays "WindCardShips$Ship" "WindCardShips$Ship" "rightReady" "I" ∈ WSa := wsa_i 124 _ (by decide +kernel) (by decide +kernel)
theorem kw125 : Jvm.Cond.soleField "WindCardShips$Ship" "rightReady" ∈ WSa := wsa_i 125 _ (by decide +kernel) (by decide +kernel)
theorem kw126 : Jvm.Cond.lays "WindCardShips$Ship" "WindCardShips$Ship" "done" "I" ∈ WSa := wsa_i 126 _ (by decide +kernel) (by decide +kernel)
theorem kw127 : Jvm.Cond.soleField "WindCardShips$Ship" "done" ∈ WSa := wsa_i 127 _ (by decide +kernel) (by decide +kernel)
theorem kw128 : Jvm.Cond.superclass "WindCardShips$Ship" "java/lang/Object" ∈ WSa := wsa_i 128 _ (by decide +kernel) (by decide +kernel)
theorem kw129 : Jvm.Cond.arrayClass Jvm.ClassFile.FieldType.int ∈ WSa := wsa_i 129 _ (by decide +kernel) (by decide +kernel)
theorem kw130 : Jvm.Cond.fieldLink "WindCardShips$Game" (40 : Nat) "WindCardShips$Game" "turn" "I" ∈ WSa := wsa_i 130 _ (by decide +kernel) (by decide +kernel)
theorem kw131 : Jvm.Cond.fieldLink "WindCardShips$Game" (43 : Nat) "WindCardShips$Game" "moving" "Z" ∈ WSa := wsa_i 131 _ (by decide +kernel) (by decide +kernel)
theorem kw132 : Jvm.Cond.fieldLink "WindCardShips$Game" (47 : Nat) "WindCardShips$Game" "direction" "I" ∈ WSa := wsa_i 132 _ (by decide +kernel) (by decide +kernel)
theorem kw133 : Jvm.Cond.fieldLink "WindCardShips$Game" (9 : Nat) "WindCardShips$Game" "windStrength" "I" ∈ WSa := wsa_i 133 _ (by decide +kernel) (by decide +kernel)
theorem kw134 : Jvm.Cond.fieldLink "WindCardShips$Game" (50 : Nat) "WindCardShips$Game" "shipCount" "I" ∈ WSa := wsa_i 134 _ (by decide +kernel) (by decide +kernel)
theorem kw135 : Jvm.Cond.fieldLink "WindCardShips$Game" (53 : Nat) "WindCardShips$Game" "captures" "I" ∈ WSa := wsa_i 135 _ (by decide +kernel) (by decide +kernel)
theorem kw136 : Jvm.Cond.fieldLink "WindCardShips$Game" (18 : Nat) "WindCardShips$Game" "first" "LWindCardShips$Captain;" ∈ WSa := wsa_i 136 _ (by decide +kernel) (by decide +kernel)
theorem kw137 : Jvm.Cond.fieldLink "WindCardShips$Game" (22 : Nat) "WindCardShips$Game" "second" "LWindCardShips$Captain;" ∈ WSa := wsa_i 137 _ (by decide +kernel) (by decide +kernel)
theorem kw138 : Jvm.Cond.fieldLink "WindCardShips$Game" (27 : Nat) "WindCardShips$Game" "islands" "[I" ∈ WSa := wsa_i 138 _ (by decide +kernel) (by decide +kernel)
theorem kw139 : Jvm.Cond.fieldLink "WindCardShips$Game" (33 : Nat) "WindCardShips$Game" "ships" "[LWindCardShips$Ship;" ∈ WSa := wsa_i 139 _ (by decide +kernel) (by decide +kernel)
theorem kw140 : Jvm.Cond.lays "WindCardShips$Game" "WindCardShips$Game" "turn" "I" ∈ WSa := wsa_i 140 _ (by decide +kernel) (by decide +kernel)
theorem kw141 : Jvm.Cond.soleField "WindCardShips$Game" "turn" ∈ WSa := wsa_i 141 _ (by decide +kernel) (by decide +kernel)
theorem kw142 : Jvm.Cond.lays "WindCardShips$Game" "WindCardShips$Game" "moving" "Z" ∈ WSa := wsa_i 142 _ (by decide +kernel) (by decide +kernel)
theorem kw143 : Jvm.Cond.soleField "WindCardShips$Game" "moving" ∈ WSa := wsa_i 143 _ (by decide +kernel) (by decide +kernel)
theorem kw144 : Jvm.Cond.lays "WindCardShips$Game" "WindCardShips$Game" "direction" "I" ∈ WSa := wsa_i 144 _ (by decide +kernel) (by decide +kernel)
theorem kw145 : Jvm.Cond.soleField "WindCardShips$Game" "direction" ∈ WSa := wsa_i 145 _ (by decide +kernel) (by decide +kernel)
theorem kw146 : Jvm.Cond.lays "WindCardShips$Game" "WindCardShips$Game" "windStrength" "I" ∈ WSa := wsa_i 146 _ (by decide +kernel) (by decide +kernel)
theorem kw147 : Jvm.Cond.soleField "WindCardShips$Game" "windStrength" ∈ WSa := wsa_i 147 _ (by decide +kernel) (by decide +kernel)
theorem kw148 : Jvm.Cond.lays "WindCardShips$Game" "WindCardShips$Game" "shipCount" "I" ∈ WSa := wsa_i 148 _ (by decide +kernel) (by decide +kernel)
theorem kw149 : Jvm.Cond.soleField "WindCardShips$Game" "shipCount" ∈ WSa := wsa_i 149 _ (by decide +kernel) (by decide +kernel)
theorem kw150 : Jvm.Cond.lays "WindCardShips$Game" "WindCardShips$Game" "captures" "I" ∈ WSa := wsa_i 150 _ (by decide +kernel) (by decide +kernel)
theorem kw151 : Jvm.Cond.soleField "WindCardShips$Game" "captures" ∈ WSa := wsa_i 151 _ (by decide +kernel) (by decide +kernel)
theorem kw152 : Jvm.Cond.laysFinal "WindCardShips$Game" "WindCardShips$Game" "first" "LWindCardShips$Captain;" ∈ WSa := wsa_i 152 _ (by decide +kernel) (by decide +kernel)
theorem kw153 : Jvm.Cond.soleField "WindCardShips$Game" "first" ∈ WSa := wsa_i 153 _ (by decide +kernel) (by decide +kernel)
theorem kw154 : Jvm.Cond.laysFinal "WindCardShips$Game" "WindCardShips$Game" "second" "LWindCardShips$Captain;" ∈ WSa := wsa_i 154 _ (by decide +kernel) (by decide +kernel)
theorem kw155 : Jvm.Cond.soleField "WindCardShips$Game" "second" ∈ WSa := wsa_i 155 _ (by decide +kernel) (by decide +kernel)
theorem kw156 : Jvm.Cond.laysFinal "WindCardShips$Game" "WindCardShips$Game" "islands" "[I" ∈ WSa := wsa_i 156 _ (by decide +kernel) (by decide +kernel)
theorem kw157 : Jvm.Cond.soleField "WindCardShips$Game" "islands" ∈ WSa := wsa_i 157 _ (by decide +kernel) (by decide +kernel)
theorem kw158 : Jvm.Cond.laysFinal "WindCardShips$Game" "WindCardShips$Game" "ships" "[LWindCardShips$Ship;" ∈ WSa := wsa_i 158 _ (by decide +kernel) (by decide +kernel)
theorem kw159 : Jvm.Cond.soleField "WindCardShips$Game" "ships" ∈ WSa := wsa_i 159 _ (by decide +kernel) (by decide +kernel)
theorem kw160 : Jvm.Cond.superclass "WindCardShips$Game" "java/lang/Object" ∈ WSa := wsa_i 160 _ (by decide +kernel) (by decide +kernel)
theorem kw161 : Jvm.Cond.fieldLink "WindCardShips$State" (12 : Nat) "WindCardShips$State" "game" "LWindCardShips$Game;" ∈ WSa := wsa_i 161 _ (by decide +kernel) (by decide +kernel)
theorem kw162 : Jvm.Cond.fieldLink "WindCardShips" (41 : Nat) "WindCardShips$State" "game" "LWindCardShips$Game;" ∈ WSa := wsa_i 162 _ (by decide +kernel) (by decide +kernel)
theorem kw163 : Jvm.Cond.fieldLink "WindCardShips$State" (18 : Nat) "WindCardShips$State" "firstSlot" "LWindCardShips$Game;" ∈ WSa := wsa_i 163 _ (by decide +kernel) (by decide +kernel)
theorem kw164 : Jvm.Cond.fieldLink "WindCardShips$State" (21 : Nat) "WindCardShips$State" "secondSlot" "LWindCardShips$Game;" ∈ WSa := wsa_i 164 _ (by decide +kernel) (by decide +kernel)
theorem kw165 : Jvm.Cond.fieldLink "WindCardShips$State" (28 : Nat) "WindCardShips$State" "taken" "I" ∈ WSa := wsa_i 165 _ (by decide +kernel) (by decide +kernel)
theorem kw166 : Jvm.Cond.fieldLink "WindCardShips" (118 : Nat) "WindCardShips$State" "taken" "I" ∈ WSa := wsa_i 166 _ (by decide +kernel) (by decide +kernel)
theorem kw167 : Jvm.Cond.laysFinal "WindCardShips$State" "WindCardShips$State" "game" "LWindCardShips$Game;" ∈ WSa := wsa_i 167 _ (by decide +kernel) (by decide +kernel)
theorem kw168 : Jvm.Cond.soleField "WindCardShips$State" "game" ∈ WSa := wsa_i 168 _ (by decide +kernel) (by decide +kernel)
theorem kw169 : Jvm.Cond.laysFinal "WindCardShips$State" "WindCardShips$State" "firstSlot" "LWindCardShips$Game;" ∈ WSa := wsa_i 169 _ (by decide +kernel) (by decide +kernel)
theorem kw170 : Jvm.Cond.soleField "WindCardShips$State" "firstSlot" ∈ WSa := wsa_i 170 _ (by decide +kernel) (by decide +kernel)
theorem kw171 : Jvm.Cond.laysFinal "WindCardShips$State" "WindCardShips$State" "secondSlot" "LWindCardShips$Game;" ∈ WSa := wsa_i 171 _ (by decide +kernel) (by decide +kernel)
theorem kw172 : Jvm.Cond.soleField "WindCardShips$State" "secondSlot" ∈ WSa := wsa_i 172 _ (by decide +kernel) (by decide +kernel)
theorem kw173 : Jvm.Cond.lays "WindCardShips$State" "WindCardShips$State" "taken" "I" ∈ WSa := wsa_i 173 _ (by decide +kernel) (by decide +kernel)
theorem kw174 : Jvm.Cond.soleField "WindCardShips$State" "taken" ∈ WSa := wsa_i 174 _ (by decide +kernel) (by decide +kernel)
theorem kw175 : Jvm.Cond.superclass "WindCardShips$State" "java/lang/Object" ∈ WSa := wsa_i 175 _ (by decide +kernel) (by decide +kernel)
theorem kw176 : Jvm.Cond.classLink "WindCardShips" (16 : Nat) "WindCardShips$History" ∈ WSa := wsa_i 176 _ (by decide +kernel) (by decide +kernel)
theorem kw177 : Jvm.Cond.instantiable "WindCardShips$History" (3 : Nat) ∈ WSa := wsa_i 177 _ (by decide +kernel) (by decide +kernel)
theorem kw178 : Jvm.Cond.methodLink "WindCardShips" (18 : Nat) ({ cls := "WindCardShips$History", name := "<init>", desc := "()V" } : Jvm.MethodName) ∈ WSa := wsa_i 178 _ (by decide +kernel) (by decide +kernel)
theorem kw179 : Jvm.Cond.instanceMethod ({ cls := "WindCardShips$History", name := "<init>", desc := "()V" } : Jvm.MethodName) ∈ WSa := wsa_i 179 _ (by decide +kernel) (by decide +kernel)
theorem kw180 : Jvm.Cond.code ({ cls := "WindCardShips$History", name := "<init>", desc := "()V" } : Jvm.MethodName) prog_5_method_1_code (2 : Nat) (Option.none : Option Jvm.ClassFile.FieldType) ∈ WSa := wsa_i 180 _ (by decide +kernel) (by decide +kernel)
theorem kw181 : Jvm.Cond.methodLink "WindCardShips$History" (3 : Nat) ({ cls := "java/lang/Object", name := "<init>", desc := "()V" } : Jvm.MethodName) ∈ WSa := wsa_i 181 _ (by decide +kernel) (by decide +kernel)
theorem kw182 : Jvm.Cond.classLink "WindCardShips$History" (11 : Nat) "WindCardShips$State" ∈ WSa := wsa_i 182 _ (by decide +kernel) (by decide +kernel)
theorem kw185 : Jvm.Cond.fieldLink "WindCardShips$History" (13 : Nat) "WindCardShips$History" "rows" "[LWindCardShips$State;" ∈ WSa := wsa_i 185 _ (by decide +kernel) (by decide +kernel)
theorem kw186 : Jvm.Cond.fieldLink "WindCardShips$History" (18 : Nat) "WindCardShips$History" "aside" "LWindCardShips$State;" ∈ WSa := wsa_i 186 _ (by decide +kernel) (by decide +kernel)
theorem kw187 : Jvm.Cond.fieldLink "WindCardShips$History" (22 : Nat) "WindCardShips$History" "size" "I" ∈ WSa := wsa_i 187 _ (by decide +kernel) (by decide +kernel)
theorem kw188 : Jvm.Cond.laysFinal "WindCardShips$History" "WindCardShips$History" "rows" "[LWindCardShips$State;" ∈ WSa := wsa_i 188 _ (by decide +kernel) (by decide +kernel)
theorem kw189 : Jvm.Cond.soleField "WindCardShips$History" "rows" ∈ WSa := wsa_i 189 _ (by decide +kernel) (by decide +kernel)
theorem kw190 : Jvm.Cond.lays "WindCardShips$History" "WindCardShips$History" "aside" "LWindCardShips$State;" ∈ WSa := wsa_i 190 _ (by decide +kernel) (by decide +kernel)
theorem kw191 : Jvm.Cond.soleField "WindCardShips$History" "aside" ∈ WSa := wsa_i 191 _ (by decide +kernel) (by decide +kernel)
theorem kw192 : Jvm.Cond.lays "WindCardShips$History" "WindCardShips$History" "size" "I" ∈ WSa := wsa_i 192 _ (by decide +kernel) (by decide +kernel)
theorem kw193 : Jvm.Cond.soleField "WindCardShips$History" "size" ∈ WSa := wsa_i 193 _ (by decide +kernel) (by decide +kernel)
theorem kw194 : Jvm.Cond.superclass "WindCardShips$History" "java/lang/Object" ∈ WSa := wsa_i 194 _ (by decide +kernel) (by decide +kernel)
theorem kw195 : Jvm.Cond.classLink "WindCardShips" (23 : Nat) "WindCardShips$Orders" ∈ WSa := wsa_i 195 _ (by decide +kernel) (by decide +kernel)
theorem kw196 : Jvm.Cond.instantiable "WindCardShips$Orders" (7 : Nat) ∈ WSa := wsa_i 196 _ (by decide +kernel) (by decide +kernel)
theorem kw198 : Jvm.Cond.instanceMethod ({ cls := "WindCardShips$Orders", name := "<init>", desc := "()V" } : Jvm.MethodName) ∈ WSa := wsa_i 198 _ (by decide +kernel) (by decide +kernel)
theorem kw199 : Jvm.Cond.code ({ cls := "WindCardShips$Orders", name := "<init>", desc := "()V" } : Jvm.MethodName) prog_6_method_1_code (1 : Nat) (Option.none : Option Jvm.ClassFile.FieldType) ∈ WSa := wsa_i 199 _ (by decide +kernel) (by decide +kernel)
theorem kw200 : Jvm.Cond.methodLink "WindCardShips$Orders" (3 : Nat) ({ cls := "java/lang/Object", name := "<init>", desc := "()V" } : Jvm.MethodName) ∈ WSa := wsa_i 200 _ (by decide +kernel) (by decide +kernel)
theorem kw201 : Jvm.Cond.fieldLink "WindCardShips$Orders" (11 : Nat) "WindCardShips$Orders" "signs" "[I" ∈ WSa := wsa_i 201 _ (by decide +kernel) (by decide +kernel)
theorem kw202 : Jvm.Cond.fieldLink "WindCardShips$Orders" (15 : Nat) "WindCardShips$Orders" "length" "I" ∈ WSa := wsa_i 202 _ (by decide +kernel) (by decide +kernel)
theorem kw203 : Jvm.Cond.laysFinal "WindCardShips$Orders" "WindCardShips$Orders" "signs" "[I" ∈ WSa := wsa_i 203 _ (by decide +kernel) (by decide +kernel)
theorem kw204 : Jvm.Cond.soleField "WindCardShips$Orders" "signs" ∈ WSa := wsa_i 204 _ (by decide +kernel) (by decide +kernel)
theorem kw205 : Jvm.Cond.lays "WindCardShips$Orders" "WindCardShips$Orders" "length" "I" ∈ WSa := wsa_i 205 _ (by decide +kernel) (by decide +kernel)
theorem kw206 : Jvm.Cond.soleField "WindCardShips$Orders" "length" ∈ WSa := wsa_i 206 _ (by decide +kernel) (by decide +kernel)
theorem kw207 : Jvm.Cond.lays "WindCardShips$Orders" "WindCardShips$Orders" "at" "I" ∈ WSa := wsa_i 207 _ (by decide +kernel) (by decide +kernel)
theorem kw208 : Jvm.Cond.soleField "WindCardShips$Orders" "at" ∈ WSa := wsa_i 208 _ (by decide +kernel) (by decide +kernel)
theorem kw209 : Jvm.Cond.lays "WindCardShips$Orders" "WindCardShips$Orders" "letter" "I" ∈ WSa := wsa_i 209 _ (by decide +kernel) (by decide +kernel)
theorem kw210 : Jvm.Cond.soleField "WindCardShips$Orders" "letter" ∈ WSa := wsa_i 210 _ (by decide +kernel) (by decide +kernel)
theorem kw211 : Jvm.Cond.lays "WindCardShips$Orders" "WindCardShips$Orders" "one" "I" ∈ WSa := wsa_i 211 _ (by decide +kernel) (by decide +kernel)
theorem kw212 : Jvm.Cond.soleField "WindCardShips$Orders" "one" ∈ WSa := wsa_i 212 _ (by decide +kernel) (by decide +kernel)
theorem kw213 : Jvm.Cond.lays "WindCardShips$Orders" "WindCardShips$Orders" "two" "I" ∈ WSa := wsa_i 213 _ (by decide +kernel) (by decide +kernel)
theorem kw214 : Jvm.Cond.soleField "WindCardShips$Orders" "two" ∈ WSa := wsa_i 214 _ (by decide +kernel) (by decide +kernel)
theorem kw215 : Jvm.Cond.lays "WindCardShips$Orders" "WindCardShips$Orders" "three" "I" ∈ WSa := wsa_i 215 _ (by decide +kernel) (by decide +kernel)
theorem kw216 : Jvm.Cond.soleField "WindCardShips$Orders" "three" ∈ WSa := wsa_i 216 _ (by decide +kernel) (by decide +kernel)
theorem kw217 : Jvm.Cond.superclass "WindCardShips$Orders" "java/lang/Object" ∈ WSa := wsa_i 217 _ (by decide +kernel) (by decide +kernel)
theorem kw218 : Jvm.Cond.classLink "WindCardShips" (30 : Nat) "WindCardShips$Routes" ∈ WSa := wsa_i 218 _ (by decide +kernel) (by decide +kernel)
theorem kw219 : Jvm.Cond.instantiable "WindCardShips$Routes" (4 : Nat) ∈ WSa := wsa_i 219 _ (by decide +kernel) (by decide +kernel)
theorem kw221 : Jvm.Cond.instanceMethod ({ cls := "WindCardShips$Routes", name := "<init>", desc := "()V" } : Jvm.MethodName) ∈ WSa := wsa_i 221 _ (by decide +kernel) (by decide +kernel)
theorem kw222 : Jvm.Cond.code ({ cls := "WindCardShips$Routes", name := "<init>", desc := "()V" } : Jvm.MethodName) prog_8_method_1_code (1 : Nat) (Option.none : Option Jvm.ClassFile.FieldType) ∈ WSa := wsa_i 222 _ (by decide +kernel) (by decide +kernel)
theorem kw223 : Jvm.Cond.methodLink "WindCardShips$Routes" (5 : Nat) ({ cls := "java/lang/Object", name := "<init>", desc := "()V" } : Jvm.MethodName) ∈ WSa := wsa_i 223 _ (by decide +kernel) (by decide +kernel)
theorem kw224 : Jvm.Cond.fieldLink "WindCardShips$Routes" (13 : Nat) "WindCardShips$Routes" "pathTo" "[I" ∈ WSa := wsa_i 224 _ (by decide +kernel) (by decide +kernel)
theorem kw225 : Jvm.Cond.fieldLink "WindCardShips$Routes" (17 : Nat) "WindCardShips$Routes" "queue" "[I" ∈ WSa := wsa_i 225 _ (by decide +kernel) (by decide +kernel)
theorem kw226 : Jvm.Cond.fieldLink "WindCardShips$Routes" (20 : Nat) "WindCardShips$Routes" "arrival" "[I" ∈ WSa := wsa_i 226 _ (by decide +kernel) (by decide +kernel)
theorem kw227 : Jvm.Cond.fieldLink "WindCardShips$Routes" (29 : Nat) "WindCardShips$Routes" "queued" "I" ∈ WSa := wsa_i 227 _ (by decide +kernel) (by decide +kernel)
theorem kw228 : Jvm.Cond.laysFinal "WindCardShips$Routes" "WindCardShips$Routes" "pathTo" "[I" ∈ WSa := wsa_i 228 _ (by decide +kernel) (by decide +kernel)
theorem kw229 : Jvm.Cond.soleField "WindCardShips$Routes" "pathTo" ∈ WSa := wsa_i 229 _ (by decide +kernel) (by decide +kernel)
theorem kw230 : Jvm.Cond.laysFinal "WindCardShips$Routes" "WindCardShips$Routes" "queue" "[I" ∈ WSa := wsa_i 230 _ (by decide +kernel) (by decide +kernel)
theorem kw231 : Jvm.Cond.soleField "WindCardShips$Routes" "queue" ∈ WSa := wsa_i 231 _ (by decide +kernel) (by decide +kernel)
theorem kw232 : Jvm.Cond.laysFinal "WindCardShips$Routes" "WindCardShips$Routes" "arrival" "[I" ∈ WSa := wsa_i 232 _ (by decide +kernel) (by decide +kernel)
theorem kw233 : Jvm.Cond.soleField "WindCardShips$Routes" "arrival" ∈ WSa := wsa_i 233 _ (by decide +kernel) (by decide +kernel)
theorem kw234 : Jvm.Cond.lays "WindCardShips$Routes" "WindCardShips$Routes" "queued" "I" ∈ WSa := wsa_i 234 _ (by decide +kernel) (by decide +kernel)
theorem kw235 : Jvm.Cond.soleField "WindCardShips$Routes" "queued" ∈ WSa := wsa_i 235 _ (by decide +kernel) (by decide +kernel)
theorem kw236 : Jvm.Cond.superclass "WindCardShips$Routes" "java/lang/Object" ∈ WSa := wsa_i 236 _ (by decide +kernel) (by decide +kernel)
theorem kw237 : Jvm.Cond.fieldLink "WindCardShips" (10 : Nat) "WindCardShips" "state" "LWindCardShips$State;" ∈ WSa := wsa_i 237 _ (by decide +kernel) (by decide +kernel)
theorem kw238 : Jvm.Cond.fieldLink "WindCardShips" (19 : Nat) "WindCardShips" "history" "LWindCardShips$History;" ∈ WSa := wsa_i 238 _ (by decide +kernel) (by decide +kernel)
theorem kw239 : Jvm.Cond.fieldLink "WindCardShips" (26 : Nat) "WindCardShips" "orders" "LWindCardShips$Orders;" ∈ WSa := wsa_i 239 _ (by decide +kernel) (by decide +kernel)
theorem kw240 : Jvm.Cond.fieldLink "WindCardShips" (33 : Nat) "WindCardShips" "routes" "LWindCardShips$Routes;" ∈ WSa := wsa_i 240 _ (by decide +kernel) (by decide +kernel)
theorem kw241 : Jvm.Cond.laysFinal "WindCardShips" "WindCardShips" "state" "LWindCardShips$State;" ∈ WSa := wsa_i 241 _ (by decide +kernel) (by decide +kernel)
theorem kw242 : Jvm.Cond.soleField "WindCardShips" "state" ∈ WSa := wsa_i 242 _ (by decide +kernel) (by decide +kernel)
theorem kw243 : Jvm.Cond.laysFinal "WindCardShips" "WindCardShips" "history" "LWindCardShips$History;" ∈ WSa := wsa_i 243 _ (by decide +kernel) (by decide +kernel)
theorem kw244 : Jvm.Cond.soleField "WindCardShips" "history" ∈ WSa := wsa_i 244 _ (by decide +kernel) (by decide +kernel)
theorem kw245 : Jvm.Cond.laysFinal "WindCardShips" "WindCardShips" "orders" "LWindCardShips$Orders;" ∈ WSa := wsa_i 245 _ (by decide +kernel) (by decide +kernel)
theorem kw246 : Jvm.Cond.soleField "WindCardShips" "orders" ∈ WSa := wsa_i 246 _ (by decide +kernel) (by decide +kernel)
theorem kw247 : Jvm.Cond.laysFinal "WindCardShips" "WindCardShips" "routes" "LWindCardShips$Routes;" ∈ WSa := wsa_i 247 _ (by decide +kernel) (by decide +kernel)
theorem kw248 : Jvm.Cond.soleField "WindCardShips" "routes" ∈ WSa := wsa_i 248 _ (by decide +kernel) (by decide +kernel)
theorem kw249 : Jvm.Cond.superclass "WindCardShips" "java/lang/Object" ∈ WSa := wsa_i 249 _ (by decide +kernel) (by decide +kernel)
theorem kw250 : Jvm.Cond.methodLink "WindCardShipsLaw" (86 : Nat) ({ cls := "WindCardShips", name := "end", desc := "()I" } : Jvm.MethodName) ∈ WSa := wsa_i 250 _ (by decide +kernel) (by decide +kernel)
theorem kw251 : Jvm.Cond.instanceMethod ({ cls := "WindCardShips", name := "end", desc := "()I" } : Jvm.MethodName) ∈ WSa := wsa_i 251 _ (by decide +kernel) (by decide +kernel)
theorem kw252 : Jvm.Cond.selects "WindCardShips" ({ cls := "WindCardShips", name := "end", desc := "()I" } : Jvm.MethodName) ({ cls := "WindCardShips", name := "end", desc := "()I" } : Jvm.MethodName) ∈ WSa := wsa_i 252 _ (by decide +kernel) (by decide +kernel)
theorem kw253 : Jvm.Cond.code ({ cls := "WindCardShips", name := "end", desc := "()I" } : Jvm.MethodName) prog_1_method_11_code (1 : Nat) (Option.some Jvm.ClassFile.FieldType.int) ∈ WSa := wsa_i 253 _ (by decide +kernel) (by decide +kernel)
theorem kw254 : Jvm.Cond.methodLink "WindCardShips" (37 : Nat) ({ cls := "WindCardShips$History", name := "keepAside", desc := "(LWindCardShips$State;)V" } : Jvm.MethodName) ∈ WSa := wsa_i 254 _ (by decide +kernel) (by decide +kernel)
theorem kw255 : Jvm.Cond.instanceMethod ({ cls := "WindCardShips$History", name := "keepAside", desc := "(LWindCardShips$State;)V" } : Jvm.MethodName) ∈ WSa := wsa_i 255 _ (by decide +kernel) (by decide +kernel)
theorem kw256 : Jvm.Cond.selects "WindCardShips$History" ({ cls := "WindCardShips$History", name := "keepAside", desc := "(LWindCardShips$State;)V" } : Jvm.MethodName) ({ cls := "WindCardShips$History", name := "keepAside", desc := "(LWindCardShips$State;)V" } : Jvm.MethodName) ∈ WSa := wsa_i 256 _ (by decide +kernel) (by decide +kernel)
theorem kw257 : Jvm.Cond.code ({ cls := "WindCardShips$History", name := "keepAside", desc := "(LWindCardShips$State;)V" } : Jvm.MethodName) prog_5_method_3_code (2 : Nat) (Option.none : Option Jvm.ClassFile.FieldType) ∈ WSa := wsa_i 257 _ (by decide +kernel) (by decide +kernel)
theorem kw258 : Jvm.Cond.methodLink "WindCardShips$History" (26 : Nat) ({ cls := "WindCardShips$State", name := "copyFrom", desc := "(LWindCardShips$State;)V" } : Jvm.MethodName) ∈ WSa := wsa_i 258 _ (by decide +kernel) (by decide +kernel)
theorem kw259 : Jvm.Cond.instanceMethod ({ cls := "WindCardShips$State", name := "copyFrom", desc := "(LWindCardShips$State;)V" } : Jvm.MethodName) ∈ WSa := wsa_i 259 _ (by decide +kernel) (by decide +kernel)
theorem kw260 : Jvm.Cond.selects "WindCardShips$State" ({ cls := "WindCardShips$State", name := "copyFrom", desc := "(LWindCardShips$State;)V" } : Jvm.MethodName) ({ cls := "WindCardShips$State", name := "copyFrom", desc := "(LWindCardShips$State;)V" } : Jvm.MethodName) ∈ WSa := wsa_i 260 _ (by decide +kernel) (by decide +kernel)
theorem kw261 : Jvm.Cond.code ({ cls := "WindCardShips$State", name := "copyFrom", desc := "(LWindCardShips$State;)V" } : Jvm.MethodName) prog_10_method_2_code (2 : Nat) (Option.none : Option Jvm.ClassFile.FieldType) ∈ WSa := wsa_i 261 _ (by decide +kernel) (by decide +kernel)
theorem kw262 : Jvm.Cond.methodLink "WindCardShips$State" (24 : Nat) ({ cls := "WindCardShips$Game", name := "copyFrom", desc := "(LWindCardShips$Game;)V" } : Jvm.MethodName) ∈ WSa := wsa_i 262 _ (by decide +kernel) (by decide +kernel)
theorem kw263 : Jvm.Cond.instanceMethod ({ cls := "WindCardShips$Game", name := "copyFrom", desc := "(LWindCardShips$Game;)V" } : Jvm.MethodName) ∈ WSa := wsa_i 263 _ (by decide +kernel) (by decide +kernel)
theorem kw264 : Jvm.Cond.selects "WindCardShips$Game" ({ cls := "WindCardShips$Game", name := "copyFrom", desc := "(LWindCardShips$Game;)V" } : Jvm.MethodName) ({ cls := "WindCardShips$Game", name := "copyFrom", desc := "(LWindCardShips$Game;)V" } : Jvm.MethodName) ∈ WSa := wsa_i 264 _ (by decide +kernel) (by decide +kernel)
theorem kw265 : Jvm.Cond.code ({ cls := "WindCardShips$Game", name := "copyFrom", desc := "(LWindCardShips$Game;)V" } : Jvm.MethodName) prog_3_method_2_code (3 : Nat) (Option.none : Option Jvm.ClassFile.FieldType) ∈ WSa := wsa_i 265 _ (by decide +kernel) (by decide +kernel)
theorem kw266 : Jvm.Cond.methodLink "WindCardShips$Game" (56 : Nat) ({ cls := "WindCardShips$Captain", name := "copyFrom", desc := "(LWindCardShips$Captain;)V" } : Jvm.MethodName) ∈ WSa := wsa_i 266 _ (by decide +kernel) (by decide +kernel)
theorem kw267 : Jvm.Cond.instanceMethod ({ cls := "WindCardShips$Captain", name := "copyFrom", desc := "(LWindCardShips$Captain;)V" } : Jvm.MethodName) ∈ WSa := wsa_i 267 _ (by decide +kernel) (by decide +kernel)
theorem kw268 : Jvm.Cond.selects "WindCardShips$Captain" ({ cls := "WindCardShips$Captain", name := "copyFrom", desc := "(LWindCardShips$Captain;)V" } : Jvm.MethodName) ({ cls := "WindCardShips$Captain", name := "copyFrom", desc := "(LWindCardShips$Captain;)V" } : Jvm.MethodName) ∈ WSa := wsa_i 268 _ (by decide +kernel) (by decide +kernel)
theorem kw269 : Jvm.Cond.code ({ cls := "WindCardShips$Captain", name := "copyFrom", desc := "(LWindCardShips$Captain;)V" } : Jvm.MethodName) prog_2_method_4_code (2 : Nat) (Option.none : Option Jvm.ClassFile.FieldType) ∈ WSa := wsa_i 269 _ (by decide +kernel) (by decide +kernel)
theorem kw270 : Jvm.Cond.methodLink "WindCardShips$Game" (60 : Nat) ({ cls := "java/lang/System", name := "arraycopy", desc := "(Ljava/lang/Object;ILjava/lang/Object;II)V" } : Jvm.MethodName) ∈ WSa := wsa_i 270 _ (by decide +kernel) (by decide +kernel)
theorem kw271 : Jvm.Cond.static ({ cls := "java/lang/System", name := "arraycopy", desc := "(Ljava/lang/Object;ILjava/lang/Object;II)V" } : Jvm.MethodName) ∈ WSa := wsa_i 271 _ (by decide +kernel) (by decide +kernel)
theorem kw272 : Jvm.Cond.native ({ cls := "java/lang/System", name := "arraycopy", desc := "(Ljava/lang/Object;ILjava/lang/Object;II)V" } : Jvm.MethodName) ∈ WSa := wsa_i 272 _ (by decide +kernel) (by decide +kernel)
theorem kw273 : Jvm.Cond.methodLink "WindCardShips$Game" (66 : Nat) ({ cls := "WindCardShips$Ship", name := "copyFrom", desc := "(LWindCardShips$Ship;)V" } : Jvm.MethodName) ∈ WSa := wsa_i 273 _ (by decide +kernel) (by decide +kernel)
theorem kw274 : Jvm.Cond.instanceMethod ({ cls := "WindCardShips$Ship", name := "copyFrom", desc := "(LWindCardShips$Ship;)V" } : Jvm.MethodName) ∈ WSa := wsa_i 274 _ (by decide +kernel) (by decide +kernel)
theorem kw275 : Jvm.Cond.selects "WindCardShips$Ship" ({ cls := "WindCardShips$Ship", name := "copyFrom", desc := "(LWindCardShips$Ship;)V" } : Jvm.MethodName) ({ cls := "WindCardShips$Ship", name := "copyFrom", desc := "(LWindCardShips$Ship;)V" } : Jvm.MethodName) ∈ WSa := wsa_i 275 _ (by decide +kernel) (by decide +kernel)
theorem kw276 : Jvm.Cond.code ({ cls := "WindCardShips$Ship", name := "copyFrom", desc := "(LWindCardShips$Ship;)V" } : Jvm.MethodName) prog_9_method_3_code (2 : Nat) (Option.none : Option Jvm.ClassFile.FieldType) ∈ WSa := wsa_i 276 _ (by decide +kernel) (by decide +kernel)
theorem kw277 : Jvm.Cond.methodLink "WindCardShips" (81 : Nat) ({ cls := "WindCardShips$Game", name := "endTurn", desc := "()I" } : Jvm.MethodName) ∈ WSa := wsa_i 277 _ (by decide +kernel) (by decide +kernel)
theorem kw278 : Jvm.Cond.instanceMethod ({ cls := "WindCardShips$Game", name := "endTurn", desc := "()I" } : Jvm.MethodName) ∈ WSa := wsa_i 278 _ (by decide +kernel) (by decide +kernel)
theorem kw279 : Jvm.Cond.selects "WindCardShips$Game" ({ cls := "WindCardShips$Game", name := "endTurn", desc := "()I" } : Jvm.MethodName) ({ cls := "WindCardShips$Game", name := "endTurn", desc := "()I" } : Jvm.MethodName) ∈ WSa := wsa_i 279 _ (by decide +kernel) (by decide +kernel)
theorem kw280 : Jvm.Cond.code ({ cls := "WindCardShips$Game", name := "endTurn", desc := "()I" } : Jvm.MethodName) prog_3_method_33_code (6 : Nat) (Option.some Jvm.ClassFile.FieldType.int) ∈ WSa := wsa_i 280 _ (by decide +kernel) (by decide +kernel)
theorem kw281 : Jvm.Cond.methodLink "WindCardShips$Game" (158 : Nat) ({ cls := "WindCardShips$Game", name := "known", desc := "(I)LWindCardShips$Ship;" } : Jvm.MethodName) ∈ WSa := wsa_i 281 _ (by decide +kernel) (by decide +kernel)
theorem kw282 : Jvm.Cond.instanceMethod ({ cls := "WindCardShips$Game", name := "known", desc := "(I)LWindCardShips$Ship;" } : Jvm.MethodName) ∈ WSa := wsa_i 282 _ (by decide +kernel) (by decide +kernel)
theorem kw283 : Jvm.Cond.selects "WindCardShips$Game" ({ cls := "WindCardShips$Game", name := "known", desc := "(I)LWindCardShips$Ship;" } : Jvm.MethodName) ({ cls := "WindCardShips$Game", name := "known", desc := "(I)LWindCardShips$Ship;" } : Jvm.MethodName) ∈ WSa := wsa_i 283 _ (by decide +kernel) (by decide +kernel)
theorem kw284 : Jvm.Cond.code ({ cls := "WindCardShips$Game", name := "known", desc := "(I)LWindCardShips$Ship;" } : Jvm.MethodName) prog_3_method_5_code (2 : Nat) (Option.some (Jvm.ClassFile.FieldType.object "WindCardShips$Ship")) ∈ WSa := wsa_i 284 _ (by decide +kernel) (by decide +kernel)
theorem kw285 : Jvm.Cond.methodLink "WindCardShips$Game" (241 : Nat) ({ cls := "WindCardShips$Game", name := "fight", desc := "(LWindCardShips$Ship;LWindCardShips$Ship;)V" } : Jvm.MethodName) ∈ WSa := wsa_i 285 _ (by decide +kernel) (by decide +kernel)
theorem kw287 : Jvm.Cond.instanceMethod ({ cls := "WindCardShips$Game", name := "fight", desc := "(LWindCardShips$Ship;LWindCardShips$Ship;)V" } : Jvm.MethodName) ∈ WSa := wsa_i 287 _ (by decide +kernel) (by decide +kernel)
theorem kw288 : Jvm.Cond.code ({ cls := "WindCardShips$Game", name := "fight", desc := "(LWindCardShips$Ship;LWindCardShips$Ship;)V" } : Jvm.MethodName) prog_3_method_29_code (5 : Nat) (Option.none : Option Jvm.ClassFile.FieldType) ∈ WSa := wsa_i 288 _ (by decide +kernel) (by decide +kernel)
theorem kw289 : Jvm.Cond.methodLink "WindCardShips$Game" (226 : Nat) ({ cls := "java/lang/Math", name := "max", desc := "(II)I" } : Jvm.MethodName) ∈ WSa := wsa_i 289 _ (by decide +kernel) (by decide +kernel)
theorem kw290 : Jvm.Cond.static ({ cls := "java/lang/Math", name := "max", desc := "(II)I" } : Jvm.MethodName) ∈ WSa := wsa_i 290 _ (by decide +kernel) (by decide +kernel)
theorem kw291 : Jvm.Cond.code ({ cls := "java/lang/Math", name := "max", desc := "(II)I" } : Jvm.MethodName) prog_14_method_65_code (2 : Nat) (Option.some Jvm.ClassFile.FieldType.int) ∈ WSa := wsa_i 291 _ (by decide +kernel) (by decide +kernel)
theorem kw292 : Jvm.Cond.methodLink "WindCardShips$Game" (231 : Nat) ({ cls := "WindCardShips$Game", name := "capture", desc := "(LWindCardShips$Ship;LWindCardShips$Ship;)V" } : Jvm.MethodName) ∈ WSa := wsa_i 292 _ (by decide +kernel) (by decide +kernel)
theorem kw294 : Jvm.Cond.instanceMethod ({ cls := "WindCardShips$Game", name := "capture", desc := "(LWindCardShips$Ship;LWindCardShips$Ship;)V" } : Jvm.MethodName) ∈ WSa := wsa_i 294 _ (by decide +kernel) (by decide +kernel)
theorem kw295 : Jvm.Cond.code ({ cls := "WindCardShips$Game", name := "capture", desc := "(LWindCardShips$Ship;LWindCardShips$Ship;)V" } : Jvm.MethodName) prog_3_method_30_code (4 : Nat) (Option.none : Option Jvm.ClassFile.FieldType) ∈ WSa := wsa_i 295 _ (by decide +kernel) (by decide +kernel)
theorem kw296 : Jvm.Cond.methodLink "WindCardShips$Game" (206 : Nat) ({ cls := "WindCardShips$Game", name := "release", desc := "(LWindCardShips$Ship;)V" } : Jvm.MethodName) ∈ WSa := wsa_i 296 _ (by decide +kernel) (by decide +kernel)
theorem kw298 : Jvm.Cond.instanceMethod ({ cls := "WindCardShips$Game", name := "release", desc := "(LWindCardShips$Ship;)V" } : Jvm.MethodName) ∈ WSa := wsa_i 298 _ (by decide +kernel) (by decide +kernel)
theorem kw299 : Jvm.Cond.code ({ cls := "WindCardShips$Game", name := "release", desc := "(LWindCardShips$Ship;)V" } : Jvm.MethodName) prog_3_method_28_code (3 : Nat) (Option.none : Option Jvm.ClassFile.FieldType) ∈ WSa := wsa_i 299 _ (by decide +kernel) (by decide +kernel)
theorem kw300 : Jvm.Cond.methodLink "WindCardShips" (51 : Nat) ({ cls := "WindCardShips$History", name := "settle", desc := "(I)I" } : Jvm.MethodName) ∈ WSa := wsa_i 300 _ (by decide +kernel) (by decide +kernel)
theorem kw301 : Jvm.Cond.instanceMethod ({ cls := "WindCardShips$History", name := "settle", desc := "(I)I" } : Jvm.MethodName) ∈ WSa := wsa_i 301 _ (by decide +kernel) (by decide +kernel)
theorem kw302 : Jvm.Cond.selects "WindCardShips$History" ({ cls := "WindCardShips$History", name := "settle", desc := "(I)I" } : Jvm.MethodName) ({ cls := "WindCardShips$History", name := "settle", desc := "(I)I" } : Jvm.MethodName) ∈ WSa := wsa_i 302 _ (by decide +kernel) (by decide +kernel)
theorem kw303 : Jvm.Cond.code ({ cls := "WindCardShips$History", name := "settle", desc := "(I)I" } : Jvm.MethodName) prog_5_method_4_code (4 : Nat) (Option.some Jvm.ClassFile.FieldType.int) ∈ WSa := wsa_i 303 _ (by decide +kernel) (by decide +kernel)
theorem kw304 : Jvm.Cond.methodLink "WindCardShips$History" (30 : Nat) ({ cls := "java/lang/Math", name := "min", desc := "(II)I" } : Jvm.MethodName) ∈ WSa := wsa_i 304 _ (by decide +kernel) (by decide +kernel)
theorem kw305 : Jvm.Cond.static ({ cls := "java/lang/Math", name := "min", desc := "(II)I" } : Jvm.MethodName) ∈ WSa := wsa_i 305 _ (by decide +kernel) (by decide +kernel)
theorem kw306 : Jvm.Cond.code ({ cls := "java/lang/Math", name := "min", desc := "(II)I" } : Jvm.MethodName) prog_14_method_69_code (2 : Nat) (Option.some Jvm.ClassFile.FieldType.int) ∈ WSa := wsa_i 306 _ (by decide +kernel) (by decide +kernel)
theorem kw307 : Jvm.Cond.methodLink "WindCardShipsLaw" (108 : Nat) ({ cls := "WindCardShips", name := "take", desc := "(I)I" } : Jvm.MethodName) ∈ WSa := wsa_i 307 _ (by decide +kernel) (by decide +kernel)
theorem kw308 : Jvm.Cond.instanceMethod ({ cls := "WindCardShips", name := "take", desc := "(I)I" } : Jvm.MethodName) ∈ WSa := wsa_i 308 _ (by decide +kernel) (by decide +kernel)
theorem kw309 : Jvm.Cond.selects "WindCardShips" ({ cls := "WindCardShips", name := "take", desc := "(I)I" } : Jvm.MethodName) ({ cls := "WindCardShips", name := "take", desc := "(I)I" } : Jvm.MethodName) ∈ WSa := wsa_i 309 _ (by decide +kernel) (by decide +kernel)
theorem kw310 : Jvm.Cond.code ({ cls := "WindCardShips", name := "take", desc := "(I)I" } : Jvm.MethodName) prog_1_method_12_code (2 : Nat) (Option.some Jvm.ClassFile.FieldType.int) ∈ WSa := wsa_i 310 _ (by decide +kernel) (by decide +kernel)
theorem kw311 : Jvm.Cond.methodLink "WindCardShips" (85 : Nat) ({ cls := "WindCardShips$State", name := "fillSlot", desc := "(I)I" } : Jvm.MethodName) ∈ WSa := wsa_i 311 _ (by decide +kernel) (by decide +kernel)
theorem kw312 : Jvm.Cond.instanceMethod ({ cls := "WindCardShips$State", name := "fillSlot", desc := "(I)I" } : Jvm.MethodName) ∈ WSa := wsa_i 312 _ (by decide +kernel) (by decide +kernel)
theorem kw313 : Jvm.Cond.selects "WindCardShips$State" ({ cls := "WindCardShips$State", name := "fillSlot", desc := "(I)I" } : Jvm.MethodName) ({ cls := "WindCardShips$State", name := "fillSlot", desc := "(I)I" } : Jvm.MethodName) ∈ WSa := wsa_i 313 _ (by decide +kernel) (by decide +kernel)
theorem kw314 : Jvm.Cond.code ({ cls := "WindCardShips$State", name := "fillSlot", desc := "(I)I" } : Jvm.MethodName) prog_10_method_3_code (2 : Nat) (Option.some Jvm.ClassFile.FieldType.int) ∈ WSa := wsa_i 314 _ (by decide +kernel) (by decide +kernel)
theorem kw315 : Jvm.Cond.methodLink "WindCardShips$State" (32 : Nat) ({ cls := "WindCardShips$State", name := "slotOf", desc := "(I)LWindCardShips$Game;" } : Jvm.MethodName) ∈ WSa := wsa_i 315 _ (by decide +kernel) (by decide +kernel)
theorem kw317 : Jvm.Cond.instanceMethod ({ cls := "WindCardShips$State", name := "slotOf", desc := "(I)LWindCardShips$Game;" } : Jvm.MethodName) ∈ WSa := wsa_i 317 _ (by decide +kernel) (by decide +kernel)
theorem kw318 : Jvm.Cond.code ({ cls := "WindCardShips$State", name := "slotOf", desc := "(I)LWindCardShips$Game;" } : Jvm.MethodName) prog_10_method_5_code (2 : Nat) (Option.some (Jvm.ClassFile.FieldType.object "WindCardShips$Game")) ∈ WSa := wsa_i 318 _ (by decide +kernel) (by decide +kernel)
theorem kw319 : Jvm.Cond.methodLink "WindCardShips$State" (36 : Nat) ({ cls := "WindCardShips$Game", name := "turn", desc := "()I" } : Jvm.MethodName) ∈ WSa := wsa_i 319 _ (by decide +kernel) (by decide +kernel)
theorem kw320 : Jvm.Cond.instanceMethod ({ cls := "WindCardShips$Game", name := "turn", desc := "()I" } : Jvm.MethodName) ∈ WSa := wsa_i 320 _ (by decide +kernel) (by decide +kernel)
theorem kw321 : Jvm.Cond.selects "WindCardShips$Game" ({ cls := "WindCardShips$Game", name := "turn", desc := "()I" } : Jvm.MethodName) ({ cls := "WindCardShips$Game", name := "turn", desc := "()I" } : Jvm.MethodName) ∈ WSa := wsa_i 321 _ (by decide +kernel) (by decide +kernel)
theorem kw322 : Jvm.Cond.code ({ cls := "WindCardShips$Game", name := "turn", desc := "()I" } : Jvm.MethodName) prog_3_method_3_code (1 : Nat) (Option.some Jvm.ClassFile.FieldType.int) ∈ WSa := wsa_i 322 _ (by decide +kernel) (by decide +kernel)
theorem kw323 : Jvm.Cond.methodLink "WindCardShipsLaw" (111 : Nat) ({ cls := "WindCardShips", name := "restore", desc := "(I)I" } : Jvm.MethodName) ∈ WSa := wsa_i 323 _ (by decide +kernel) (by decide +kernel)
theorem kw324 : Jvm.Cond.instanceMethod ({ cls := "WindCardShips", name := "restore", desc := "(I)I" } : Jvm.MethodName) ∈ WSa := wsa_i 324 _ (by decide +kernel) (by decide +kernel)
theorem kw325 : Jvm.Cond.selects "WindCardShips" ({ cls := "WindCardShips", name := "restore", desc := "(I)I" } : Jvm.MethodName) ({ cls := "WindCardShips", name := "restore", desc := "(I)I" } : Jvm.MethodName) ∈ WSa := wsa_i 325 _ (by decide +kernel) (by decide +kernel)
theorem kw326 : Jvm.Cond.code ({ cls := "WindCardShips", name := "restore", desc := "(I)I" } : Jvm.MethodName) prog_1_method_13_code (2 : Nat) (Option.some Jvm.ClassFile.FieldType.int) ∈ WSa := wsa_i 326 _ (by decide +kernel) (by decide +kernel)
theorem kw327 : Jvm.Cond.methodLink "WindCardShips" (88 : Nat) ({ cls := "WindCardShips$State", name := "resumeSlot", desc := "(I)I" } : Jvm.MethodName) ∈ WSa := wsa_i 327 _ (by decide +kernel) (by decide +kernel)
theorem kw328 : Jvm.Cond.instanceMethod ({ cls := "WindCardShips$State", name := "resumeSlot", desc := "(I)I" } : Jvm.MethodName) ∈ WSa := wsa_i 328 _ (by decide +kernel) (by decide +kernel)
theorem kw329 : Jvm.Cond.selects "WindCardShips$State" ({ cls := "WindCardShips$State", name := "resumeSlot", desc := "(I)I" } : Jvm.MethodName) ({ cls := "WindCardShips$State", name := "resumeSlot", desc := "(I)I" } : Jvm.MethodName) ∈ WSa := wsa_i 329 _ (by decide +kernel) (by decide +kernel)
theorem kw330 : Jvm.Cond.code ({ cls := "WindCardShips$State", name := "resumeSlot", desc := "(I)I" } : Jvm.MethodName) prog_10_method_4_code (2 : Nat) (Option.some Jvm.ClassFile.FieldType.int) ∈ WSa := wsa_i 330 _ (by decide +kernel) (by decide +kernel)
theorem kw331 : Jvm.Cond.methodLink "WindCardShipsLaw" (63 : Nat) ({ cls := "WindCardShips", name := "undo", desc := "()I" } : Jvm.MethodName) ∈ WSa := wsa_i 331 _ (by decide +kernel) (by decide +kernel)
theorem kw332 : Jvm.Cond.instanceMethod ({ cls := "WindCardShips", name := "undo", desc := "()I" } : Jvm.MethodName) ∈ WSa := wsa_i 332 _ (by decide +kernel) (by decide +kernel)
theorem kw333 : Jvm.Cond.selects "WindCardShips" ({ cls := "WindCardShips", name := "undo", desc := "()I" } : Jvm.MethodName) ({ cls := "WindCardShips", name := "undo", desc := "()I" } : Jvm.MethodName) ∈ WSa := wsa_i 333 _ (by decide +kernel) (by decide +kernel)
theorem kw334 : Jvm.Cond.code ({ cls := "WindCardShips", name := "undo", desc := "()I" } : Jvm.MethodName) prog_1_method_14_code (1 : Nat) (Option.some Jvm.ClassFile.FieldType.int) ∈ WSa := wsa_i 334 _ (by decide +kernel) (by decide +kernel)
theorem kw335 : Jvm.Cond.methodLink "WindCardShips" (91 : Nat) ({ cls := "WindCardShips$History", name := "stepBack", desc := "(LWindCardShips$State;)I" } : Jvm.MethodName) ∈ WSa := wsa_i 335 _ (by decide +kernel) (by decide +kernel)
theorem kw336 : Jvm.Cond.instanceMethod ({ cls := "WindCardShips$History", name := "stepBack", desc := "(LWindCardShips$State;)I" } : Jvm.MethodName) ∈ WSa := wsa_i 336 _ (by decide +kernel) (by decide +kernel)
theorem kw337 : Jvm.Cond.selects "WindCardShips$History" ({ cls := "WindCardShips$History", name := "stepBack", desc := "(LWindCardShips$State;)I" } : Jvm.MethodName) ({ cls := "WindCardShips$History", name := "stepBack", desc := "(LWindCardShips$State;)I" } : Jvm.MethodName) ∈ WSa := wsa_i 337 _ (by decide +kernel) (by decide +kernel)
theorem kw338 : Jvm.Cond.code ({ cls := "WindCardShips$History", name := "stepBack", desc := "(LWindCardShips$State;)I" } : Jvm.MethodName) prog_5_method_5_code (4 : Nat) (Option.some Jvm.ClassFile.FieldType.int) ∈ WSa := wsa_i 338 _ (by decide +kernel) (by decide +kernel)
theorem kw339 : Jvm.Cond.methodLink "WindCardShipsLaw" (15 : Nat) ({ cls := "WindCardShips", name := "count", desc := "(I)I" } : Jvm.MethodName) ∈ WSa := wsa_i 339 _ (by decide +kernel) (by decide +kernel)
theorem kw340 : Jvm.Cond.instanceMethod ({ cls := "WindCardShips", name := "count", desc := "(I)I" } : Jvm.MethodName) ∈ WSa := wsa_i 340 _ (by decide +kernel) (by decide +kernel)
theorem kw341 : Jvm.Cond.selects "WindCardShips" ({ cls := "WindCardShips", name := "count", desc := "(I)I" } : Jvm.MethodName) ({ cls := "WindCardShips", name := "count", desc := "(I)I" } : Jvm.MethodName) ∈ WSa := wsa_i 341 _ (by decide +kernel) (by decide +kernel)
theorem kw342 : Jvm.Cond.code ({ cls := "WindCardShips", name := "count", desc := "(I)I" } : Jvm.MethodName) prog_1_method_18_code (2 : Nat) (Option.some Jvm.ClassFile.FieldType.int) ∈ WSa := wsa_i 342 _ (by decide +kernel) (by decide +kernel)
theorem kw343 : Jvm.Cond.methodLink "WindCardShips" (122 : Nat) ({ cls := "java/lang/Integer", name := "bitCount", desc := "(I)I" } : Jvm.MethodName) ∈ WSa := wsa_i 343 _ (by decide +kernel) (by decide +kernel)
theorem kw344 : Jvm.Cond.static ({ cls := "java/lang/Integer", name := "bitCount", desc := "(I)I" } : Jvm.MethodName) ∈ WSa := wsa_i 344 _ (by decide +kernel) (by decide +kernel)
theorem kw345 : Jvm.Cond.code ({ cls := "java/lang/Integer", name := "bitCount", desc := "(I)I" } : Jvm.MethodName) prog_13_method_49_code (1 : Nat) (Option.some Jvm.ClassFile.FieldType.int) ∈ WSa := wsa_i 345 _ (by decide +kernel) (by decide +kernel)
theorem kw346 : Jvm.Cond.constant "java/lang/Integer" (265 : Nat) (1431655765 : Int32) ∈ WSa := wsa_i 346 _ (by decide +kernel) (by decide +kernel)
theorem kw347 : Jvm.Cond.constant "java/lang/Integer" (266 : Nat) (858993459 : Int32) ∈ WSa := wsa_i 347 _ (by decide +kernel) (by decide +kernel)
theorem kw348 : Jvm.Cond.constant "java/lang/Integer" (267 : Nat) (252645135 : Int32) ∈ WSa := wsa_i 348 _ (by decide +kernel) (by decide +kernel)
theorem kw349 : Jvm.Cond.methodLink "WindCardShips" (127 : Nat) ({ cls := "WindCardShips$History", name := "size", desc := "()I" } : Jvm.MethodName) ∈ WSa := wsa_i 349 _ (by decide +kernel) (by decide +kernel)
theorem kw350 : Jvm.Cond.instanceMethod ({ cls := "WindCardShips$History", name := "size", desc := "()I" } : Jvm.MethodName) ∈ WSa := wsa_i 350 _ (by decide +kernel) (by decide +kernel)
theorem kw351 : Jvm.Cond.selects "WindCardShips$History" ({ cls := "WindCardShips$History", name := "size", desc := "()I" } : Jvm.MethodName) ({ cls := "WindCardShips$History", name := "size", desc := "()I" } : Jvm.MethodName) ∈ WSa := wsa_i 351 _ (by decide +kernel) (by decide +kernel)
theorem kw352 : Jvm.Cond.code ({ cls := "WindCardShips$History", name := "size", desc := "()I" } : Jvm.MethodName) prog_5_method_2_code (1 : Nat) (Option.some Jvm.ClassFile.FieldType.int) ∈ WSa := wsa_i 352 _ (by decide +kernel) (by decide +kernel)
theorem kw353 : Jvm.Cond.methodLink "WindCardShips" (130 : Nat) ({ cls := "WindCardShips$Orders", name := "length", desc := "()I" } : Jvm.MethodName) ∈ WSa := wsa_i 353 _ (by decide +kernel) (by decide +kernel)
theorem kw354 : Jvm.Cond.instanceMethod ({ cls := "WindCardShips$Orders", name := "length", desc := "()I" } : Jvm.MethodName) ∈ WSa := wsa_i 354 _ (by decide +kernel) (by decide +kernel)
theorem kw355 : Jvm.Cond.selects "WindCardShips$Orders" ({ cls := "WindCardShips$Orders", name := "length", desc := "()I" } : Jvm.MethodName) ({ cls := "WindCardShips$Orders", name := "length", desc := "()I" } : Jvm.MethodName) ∈ WSa := wsa_i 355 _ (by decide +kernel) (by decide +kernel)
theorem kw356 : Jvm.Cond.code ({ cls := "WindCardShips$Orders", name := "length", desc := "()I" } : Jvm.MethodName) prog_6_method_2_code (1 : Nat) (Option.some Jvm.ClassFile.FieldType.int) ∈ WSa := wsa_i 356 _ (by decide +kernel) (by decide +kernel)
theorem kw357 : Jvm.Cond.methodLink "WindCardShips" (133 : Nat) ({ cls := "WindCardShips$Game", name := "tally", desc := "(I)I" } : Jvm.MethodName) ∈ WSa := wsa_i 357 _ (by decide +kernel) (by decide +kernel)
theorem kw358 : Jvm.Cond.instanceMethod ({ cls := "WindCardShips$Game", name := "tally", desc := "(I)I" } : Jvm.MethodName) ∈ WSa := wsa_i 358 _ (by decide +kernel) (by decide +kernel)
theorem kw359 : Jvm.Cond.selects "WindCardShips$Game" ({ cls := "WindCardShips$Game", name := "tally", desc := "(I)I" } : Jvm.MethodName) ({ cls := "WindCardShips$Game", name := "tally", desc := "(I)I" } : Jvm.MethodName) ∈ WSa := wsa_i 359 _ (by decide +kernel) (by decide +kernel)
theorem kw360 : Jvm.Cond.code ({ cls := "WindCardShips$Game", name := "tally", desc := "(I)I" } : Jvm.MethodName) prog_3_method_34_code (2 : Nat) (Option.some Jvm.ClassFile.FieldType.int) ∈ WSa := wsa_i 360 _ (by decide +kernel) (by decide +kernel)
theorem kw361 : Jvm.Cond.methodLink "WindCardShips$Game" (142 : Nat) ({ cls := "WindCardShips$Game", name := "toldSet", desc := "()I" } : Jvm.MethodName) ∈ WSa := wsa_i 361 _ (by decide +kernel) (by decide +kernel)
theorem kw363 : Jvm.Cond.instanceMethod ({ cls := "WindCardShips$Game", name := "toldSet", desc := "()I" } : Jvm.MethodName) ∈ WSa := wsa_i 363 _ (by decide +kernel) (by decide +kernel)
theorem kw364 : Jvm.Cond.code ({ cls := "WindCardShips$Game", name := "toldSet", desc := "()I" } : Jvm.MethodName) prog_3_method_18_code (1 : Nat) (Option.some Jvm.ClassFile.FieldType.int) ∈ WSa := wsa_i 364 _ (by decide +kernel) (by decide +kernel)
theorem kw365 : Jvm.Cond.methodLink "WindCardShips$Game" (244 : Nat) ({ cls := "WindCardShips$Game", name := "fleetOf", desc := "(I)I" } : Jvm.MethodName) ∈ WSa := wsa_i 365 _ (by decide +kernel) (by decide +kernel)
theorem kw367 : Jvm.Cond.instanceMethod ({ cls := "WindCardShips$Game", name := "fleetOf", desc := "(I)I" } : Jvm.MethodName) ∈ WSa := wsa_i 367 _ (by decide +kernel) (by decide +kernel)
theorem kw368 : Jvm.Cond.code ({ cls := "WindCardShips$Game", name := "fleetOf", desc := "(I)I" } : Jvm.MethodName) prog_3_method_36_code (7 : Nat) (Option.some Jvm.ClassFile.FieldType.int) ∈ WSa := wsa_i 368 _ (by decide +kernel) (by decide +kernel)
theorem kw369 : Jvm.Cond.methodLink "WindCardShips$Game" (69 : Nat) ({ cls := "WindCardShips$Ship", name := "floats", desc := "()Z" } : Jvm.MethodName) ∈ WSa := wsa_i 369 _ (by decide +kernel) (by decide +kernel)
theorem kw370 : Jvm.Cond.instanceMethod ({ cls := "WindCardShips$Ship", name := "floats", desc := "()Z" } : Jvm.MethodName) ∈ WSa := wsa_i 370 _ (by decide +kernel) (by decide +kernel)
theorem kw371 : Jvm.Cond.selects "WindCardShips$Ship" ({ cls := "WindCardShips$Ship", name := "floats", desc := "()Z" } : Jvm.MethodName) ({ cls := "WindCardShips$Ship", name := "floats", desc := "()Z" } : Jvm.MethodName) ∈ WSa := wsa_i 371 _ (by decide +kernel) (by decide +kernel)
theorem kw372 : Jvm.Cond.code ({ cls := "WindCardShips$Ship", name := "floats", desc := "()Z" } : Jvm.MethodName) prog_9_method_4_code (1 : Nat) (Option.some Jvm.ClassFile.FieldType.boolean) ∈ WSa := wsa_i 372 _ (by decide +kernel) (by decide +kernel)
theorem kw373 : Jvm.Cond.methodLink "WindCardShips$Game" (97 : Nat) ({ cls := "WindCardShips$Game", name := "islandCount", desc := "()I" } : Jvm.MethodName) ∈ WSa := wsa_i 373 _ (by decide +kernel) (by decide +kernel)
theorem kw375 : Jvm.Cond.instanceMethod ({ cls := "WindCardShips$Game", name := "islandCount", desc := "()I" } : Jvm.MethodName) ∈ WSa := wsa_i 375 _ (by decide +kernel) (by decide +kernel)
theorem kw376 : Jvm.Cond.code ({ cls := "WindCardShips$Game", name := "islandCount", desc := "()I" } : Jvm.MethodName) prog_3_method_35_code (6 : Nat) (Option.some Jvm.ClassFile.FieldType.int) ∈ WSa := wsa_i 376 _ (by decide +kernel) (by decide +kernel)
theorem kw377 : Jvm.Cond.methodLink "WindCardShipsLaw" (54 : Nat) ({ cls := "WindCardShips", name := "strength", desc := "(I)I" } : Jvm.MethodName) ∈ WSa := wsa_i 377 _ (by decide +kernel) (by decide +kernel)
theorem kw378 : Jvm.Cond.instanceMethod ({ cls := "WindCardShips", name := "strength", desc := "(I)I" } : Jvm.MethodName) ∈ WSa := wsa_i 378 _ (by decide +kernel) (by decide +kernel)
theorem kw379 : Jvm.Cond.selects "WindCardShips" ({ cls := "WindCardShips", name := "strength", desc := "(I)I" } : Jvm.MethodName) ({ cls := "WindCardShips", name := "strength", desc := "(I)I" } : Jvm.MethodName) ∈ WSa := wsa_i 379 _ (by decide +kernel) (by decide +kernel)
theorem kw380 : Jvm.Cond.code ({ cls := "WindCardShips", name := "strength", desc := "(I)I" } : Jvm.MethodName) prog_1_method_29_code (2 : Nat) (Option.some Jvm.ClassFile.FieldType.int) ∈ WSa := wsa_i 380 _ (by decide +kernel) (by decide +kernel)
theorem kw381 : Jvm.Cond.methodLink "WindCardShips" (136 : Nat) ({ cls := "WindCardShips$Captain", name := "exists", desc := "(I)Z" } : Jvm.MethodName) ∈ WSa := wsa_i 381 _ (by decide +kernel) (by decide +kernel)
theorem kw382 : Jvm.Cond.static ({ cls := "WindCardShips$Captain", name := "exists", desc := "(I)Z" } : Jvm.MethodName) ∈ WSa := wsa_i 382 _ (by decide +kernel) (by decide +kernel)
theorem kw383 : Jvm.Cond.code ({ cls := "WindCardShips$Captain", name := "exists", desc := "(I)Z" } : Jvm.MethodName) prog_2_method_2_code (1 : Nat) (Option.some Jvm.ClassFile.FieldType.boolean) ∈ WSa := wsa_i 383 _ (by decide +kernel) (by decide +kernel)
theorem kw384 : Jvm.Cond.methodLink "WindCardShips" (207 : Nat) ({ cls := "WindCardShips$Game", name := "strengthOf", desc := "(I)I" } : Jvm.MethodName) ∈ WSa := wsa_i 384 _ (by decide +kernel) (by decide +kernel)
theorem kw385 : Jvm.Cond.instanceMethod ({ cls := "WindCardShips$Game", name := "strengthOf", desc := "(I)I" } : Jvm.MethodName) ∈ WSa := wsa_i 385 _ (by decide +kernel) (by decide +kernel)
theorem kw386 : Jvm.Cond.selects "WindCardShips$Game" ({ cls := "WindCardShips$Game", name := "strengthOf", desc := "(I)I" } : Jvm.MethodName) ({ cls := "WindCardShips$Game", name := "strengthOf", desc := "(I)I" } : Jvm.MethodName) ∈ WSa := wsa_i 386 _ (by decide +kernel) (by decide +kernel)
theorem kw387 : Jvm.Cond.code ({ cls := "WindCardShips$Game", name := "strengthOf", desc := "(I)I" } : Jvm.MethodName) prog_3_method_38_code (7 : Nat) (Option.some Jvm.ClassFile.FieldType.int) ∈ WSa := wsa_i 387 _ (by decide +kernel) (by decide +kernel)
theorem kw388 : Jvm.Cond.methodLink "WindCardShipsLaw" (9 : Nat) ({ cls := "WindCardShipsLaw", name := "cell", desc := "([II)I" } : Jvm.MethodName) ∈ WSa := wsa_i 388 _ (by decide +kernel) (by decide +kernel)
theorem kw389 : Jvm.Cond.static ({ cls := "WindCardShipsLaw", name := "cell", desc := "([II)I" } : Jvm.MethodName) ∈ WSa := wsa_i 389 _ (by decide +kernel) (by decide +kernel)
theorem kw390 : Jvm.Cond.code ({ cls := "WindCardShipsLaw", name := "cell", desc := "([II)I" } : Jvm.MethodName) method_2_code (2 : Nat) (Option.some Jvm.ClassFile.FieldType.int) ∈ WSa := wsa_i 390 _ (by decide +kernel) (by decide +kernel)
theorem kw391 : Jvm.Cond.constant "WindCardShipsLaw" (7 : Nat) (15485959 : Int32) ∈ WSa := wsa_i 391 _ (by decide +kernel) (by decide +kernel)
theorem kw392 : Jvm.Cond.constant "WindCardShipsLaw" (8 : Nat) (2147483647 : Int32) ∈ WSa := wsa_i 392 _ (by decide +kernel) (by decide +kernel)
theorem kw393 : Jvm.Cond.methodLink "WindCardShipsLaw" (93 : Nat) ({ cls := "WindCardShipsLaw", name := "lays", desc := "(LWindCardShips;[I)Z" } : Jvm.MethodName) ∈ WSa := wsa_i 393 _ (by decide +kernel) (by decide +kernel)
theorem kw394 : Jvm.Cond.static ({ cls := "WindCardShipsLaw", name := "lays", desc := "(LWindCardShips;[I)Z" } : Jvm.MethodName) ∈ WSa := wsa_i 394 _ (by decide +kernel) (by decide +kernel)
theorem kw395 : Jvm.Cond.code ({ cls := "WindCardShipsLaw", name := "lays", desc := "(LWindCardShips;[I)Z" } : Jvm.MethodName) method_3_code (9 : Nat) (Option.some Jvm.ClassFile.FieldType.boolean) ∈ WSa := wsa_i 395 _ (by decide +kernel) (by decide +kernel)
theorem kw396 : Jvm.Cond.methodLink "WindCardShipsLaw" (21 : Nat) ({ cls := "WindCardShips", name := "setIsland", desc := "(II)I" } : Jvm.MethodName) ∈ WSa := wsa_i 396 _ (by decide +kernel) (by decide +kernel)
theorem kw397 : Jvm.Cond.instanceMethod ({ cls := "WindCardShips", name := "setIsland", desc := "(II)I" } : Jvm.MethodName) ∈ WSa := wsa_i 397 _ (by decide +kernel) (by decide +kernel)
theorem kw398 : Jvm.Cond.selects "WindCardShips" ({ cls := "WindCardShips", name := "setIsland", desc := "(II)I" } : Jvm.MethodName) ({ cls := "WindCardShips", name := "setIsland", desc := "(II)I" } : Jvm.MethodName) ∈ WSa := wsa_i 398 _ (by decide +kernel) (by decide +kernel)
theorem kw399 : Jvm.Cond.code ({ cls := "WindCardShips", name := "setIsland", desc := "(II)I" } : Jvm.MethodName) prog_1_method_2_code (3 : Nat) (Option.some Jvm.ClassFile.FieldType.int) ∈ WSa := wsa_i 399 _ (by decide +kernel) (by decide +kernel)
theorem kw400 : Jvm.Cond.methodLink "WindCardShips" (45 : Nat) ({ cls := "WindCardShips$Game", name := "placeIsland", desc := "(II)I" } : Jvm.MethodName) ∈ WSa := wsa_i 400 _ (by decide +kernel) (by decide +kernel)
theorem kw401 : Jvm.Cond.instanceMethod ({ cls := "WindCardShips$Game", name := "placeIsland", desc := "(II)I" } : Jvm.MethodName) ∈ WSa := wsa_i 401 _ (by decide +kernel) (by decide +kernel)
theorem kw402 : Jvm.Cond.selects "WindCardShips$Game" ({ cls := "WindCardShips$Game", name := "placeIsland", desc := "(II)I" } : Jvm.MethodName) ({ cls := "WindCardShips$Game", name := "placeIsland", desc := "(II)I" } : Jvm.MethodName) ∈ WSa := wsa_i 402 _ (by decide +kernel) (by decide +kernel)
theorem kw403 : Jvm.Cond.code ({ cls := "WindCardShips$Game", name := "placeIsland", desc := "(II)I" } : Jvm.MethodName) prog_3_method_11_code (3 : Nat) (Option.some Jvm.ClassFile.FieldType.int) ∈ WSa := wsa_i 403 _ (by decide +kernel) (by decide +kernel)
theorem kw404 : Jvm.Cond.methodLink "WindCardShips$Game" (76 : Nat) ({ cls := "WindCardShips$Hexes", name := "exists", desc := "(I)Z" } : Jvm.MethodName) ∈ WSa := wsa_i 404 _ (by decide +kernel) (by decide +kernel)
theorem kw405 : Jvm.Cond.static ({ cls := "WindCardShips$Hexes", name := "exists", desc := "(I)Z" } : Jvm.MethodName) ∈ WSa := wsa_i 405 _ (by decide +kernel) (by decide +kernel)
theorem kw406 : Jvm.Cond.code ({ cls := "WindCardShips$Hexes", name := "exists", desc := "(I)Z" } : Jvm.MethodName) prog_4_method_2_code (1 : Nat) (Option.some Jvm.ClassFile.FieldType.boolean) ∈ WSa := wsa_i 406 _ (by decide +kernel) (by decide +kernel)
theorem kw407 : Jvm.Cond.methodLink "WindCardShips$Game" (83 : Nat) ({ cls := "WindCardShips$Game", name := "shipOn", desc := "(I)LWindCardShips$Ship;" } : Jvm.MethodName) ∈ WSa := wsa_i 407 _ (by decide +kernel) (by decide +kernel)
theorem kw409 : Jvm.Cond.instanceMethod ({ cls := "WindCardShips$Game", name := "shipOn", desc := "(I)LWindCardShips$Ship;" } : Jvm.MethodName) ∈ WSa := wsa_i 409 _ (by decide +kernel) (by decide +kernel)
theorem kw410 : Jvm.Cond.code ({ cls := "WindCardShips$Game", name := "shipOn", desc := "(I)LWindCardShips$Ship;" } : Jvm.MethodName) prog_3_method_6_code (6 : Nat) (Option.some (Jvm.ClassFile.FieldType.object "WindCardShips$Ship")) ∈ WSa := wsa_i 410 _ (by decide +kernel) (by decide +kernel)
theorem kw411 : Jvm.Cond.methodLink "WindCardShipsLaw" (25 : Nat) ({ cls := "WindCardShips", name := "on", desc := "(I)I" } : Jvm.MethodName) ∈ WSa := wsa_i 411 _ (by decide +kernel) (by decide +kernel)
theorem kw412 : Jvm.Cond.instanceMethod ({ cls := "WindCardShips", name := "on", desc := "(I)I" } : Jvm.MethodName) ∈ WSa := wsa_i 412 _ (by decide +kernel) (by decide +kernel)
theorem kw413 : Jvm.Cond.selects "WindCardShips" ({ cls := "WindCardShips", name := "on", desc := "(I)I" } : Jvm.MethodName) ({ cls := "WindCardShips", name := "on", desc := "(I)I" } : Jvm.MethodName) ∈ WSa := wsa_i 413 _ (by decide +kernel) (by decide +kernel)
theorem kw414 : Jvm.Cond.code ({ cls := "WindCardShips", name := "on", desc := "(I)I" } : Jvm.MethodName) prog_1_method_21_code (2 : Nat) (Option.some Jvm.ClassFile.FieldType.int) ∈ WSa := wsa_i 414 _ (by decide +kernel) (by decide +kernel)
theorem kw415 : Jvm.Cond.methodLink "WindCardShips" (153 : Nat) ({ cls := "WindCardShips$Hexes", name := "exists", desc := "(I)Z" } : Jvm.MethodName) ∈ WSa := wsa_i 415 _ (by decide +kernel) (by decide +kernel)
theorem kw416 : Jvm.Cond.methodLink "WindCardShips" (156 : Nat) ({ cls := "WindCardShips$Game", name := "contentOf", desc := "(I)I" } : Jvm.MethodName) ∈ WSa := wsa_i 416 _ (by decide +kernel) (by decide +kernel)
theorem kw417 : Jvm.Cond.instanceMethod ({ cls := "WindCardShips$Game", name := "contentOf", desc := "(I)I" } : Jvm.MethodName) ∈ WSa := wsa_i 417 _ (by decide +kernel) (by decide +kernel)
theorem kw418 : Jvm.Cond.selects "WindCardShips$Game" ({ cls := "WindCardShips$Game", name := "contentOf", desc := "(I)I" } : Jvm.MethodName) ({ cls := "WindCardShips$Game", name := "contentOf", desc := "(I)I" } : Jvm.MethodName) ∈ WSa := wsa_i 418 _ (by decide +kernel) (by decide +kernel)
theorem kw419 : Jvm.Cond.code ({ cls := "WindCardShips$Game", name := "contentOf", desc := "(I)I" } : Jvm.MethodName) prog_3_method_10_code (3 : Nat) (Option.some Jvm.ClassFile.FieldType.int) ∈ WSa := wsa_i 419 _ (by decide +kernel) (by decide +kernel)
theorem kw420 : Jvm.Cond.methodLink "WindCardShips$Game" (80 : Nat) ({ cls := "WindCardShips$Game", name := "isIsland", desc := "(I)Z" } : Jvm.MethodName) ∈ WSa := wsa_i 420 _ (by decide +kernel) (by decide +kernel)
theorem kw422 : Jvm.Cond.instanceMethod ({ cls := "WindCardShips$Game", name := "isIsland", desc := "(I)Z" } : Jvm.MethodName) ∈ WSa := wsa_i 422 _ (by decide +kernel) (by decide +kernel)
theorem kw423 : Jvm.Cond.code ({ cls := "WindCardShips$Game", name := "isIsland", desc := "(I)Z" } : Jvm.MethodName) prog_3_method_7_code (2 : Nat) (Option.some Jvm.ClassFile.FieldType.boolean) ∈ WSa := wsa_i 423 _ (by decide +kernel) (by decide +kernel)
theorem kw424 : Jvm.Cond.methodLink "WindCardShipsLaw" (28 : Nat) ({ cls := "WindCardShips", name := "addShip", desc := "(IIIIII)I" } : Jvm.MethodName) ∈ WSa := wsa_i 424 _ (by decide +kernel) (by decide +kernel)
theorem kw425 : Jvm.Cond.instanceMethod ({ cls := "WindCardShips", name := "addShip", desc := "(IIIIII)I" } : Jvm.MethodName) ∈ WSa := wsa_i 425 _ (by decide +kernel) (by decide +kernel)
theorem kw426 : Jvm.Cond.selects "WindCardShips" ({ cls := "WindCardShips", name := "addShip", desc := "(IIIIII)I" } : Jvm.MethodName) ({ cls := "WindCardShips", name := "addShip", desc := "(IIIIII)I" } : Jvm.MethodName) ∈ WSa := wsa_i 426 _ (by decide +kernel) (by decide +kernel)
theorem kw427 : Jvm.Cond.code ({ cls := "WindCardShips", name := "addShip", desc := "(IIIIII)I" } : Jvm.MethodName) prog_1_method_3_code (7 : Nat) (Option.some Jvm.ClassFile.FieldType.int) ∈ WSa := wsa_i 427 _ (by decide +kernel) (by decide +kernel)
theorem kw428 : Jvm.Cond.methodLink "WindCardShips" (55 : Nat) ({ cls := "WindCardShips$Game", name := "launch", desc := "(IIIIII)I" } : Jvm.MethodName) ∈ WSa := wsa_i 428 _ (by decide +kernel) (by decide +kernel)
theorem kw429 : Jvm.Cond.instanceMethod ({ cls := "WindCardShips$Game", name := "launch", desc := "(IIIIII)I" } : Jvm.MethodName) ∈ WSa := wsa_i 429 _ (by decide +kernel) (by decide +kernel)
theorem kw430 : Jvm.Cond.selects "WindCardShips$Game" ({ cls := "WindCardShips$Game", name := "launch", desc := "(IIIIII)I" } : Jvm.MethodName) ({ cls := "WindCardShips$Game", name := "launch", desc := "(IIIIII)I" } : Jvm.MethodName) ∈ WSa := wsa_i 430 _ (by decide +kernel) (by decide +kernel)
theorem kw431 : Jvm.Cond.code ({ cls := "WindCardShips$Game", name := "launch", desc := "(IIIIII)I" } : Jvm.MethodName) prog_3_method_12_code (8 : Nat) (Option.some Jvm.ClassFile.FieldType.int) ∈ WSa := wsa_i 431 _ (by decide +kernel) (by decide +kernel)
theorem kw432 : Jvm.Cond.methodLink "WindCardShips$Game" (101 : Nat) ({ cls := "WindCardShips$Captain", name := "exists", desc := "(I)Z" } : Jvm.MethodName) ∈ WSa := wsa_i 432 _ (by decide +kernel) (by decide +kernel)
theorem kw433 : Jvm.Cond.methodLink "WindCardShips$Game" (102 : Nat) ({ cls := "WindCardShips$Hexes", name := "isDirection", desc := "(I)Z" } : Jvm.MethodName) ∈ WSa := wsa_i 433 _ (by decide +kernel) (by decide +kernel)
theorem kw434 : Jvm.Cond.static ({ cls := "WindCardShips$Hexes", name := "isDirection", desc := "(I)Z" } : Jvm.MethodName) ∈ WSa := wsa_i 434 _ (by decide +kernel) (by decide +kernel)
theorem kw435 : Jvm.Cond.code ({ cls := "WindCardShips$Hexes", name := "isDirection", desc := "(I)Z" } : Jvm.MethodName) prog_4_method_3_code (1 : Nat) (Option.some Jvm.ClassFile.FieldType.boolean) ∈ WSa := wsa_i 435 _ (by decide +kernel) (by decide +kernel)
theorem kw436 : Jvm.Cond.methodLink "WindCardShips$Game" (91 : Nat) ({ cls := "WindCardShips$Game", name := "isFree", desc := "(I)Z" } : Jvm.MethodName) ∈ WSa := wsa_i 436 _ (by decide +kernel) (by decide +kernel)
theorem kw438 : Jvm.Cond.instanceMethod ({ cls := "WindCardShips$Game", name := "isFree", desc := "(I)Z" } : Jvm.MethodName) ∈ WSa := wsa_i 438 _ (by decide +kernel) (by decide +kernel)
theorem kw439 : Jvm.Cond.code ({ cls := "WindCardShips$Game", name := "isFree", desc := "(I)Z" } : Jvm.MethodName) prog_3_method_8_code (2 : Nat) (Option.some Jvm.ClassFile.FieldType.boolean) ∈ WSa := wsa_i 439 _ (by decide +kernel) (by decide +kernel)
theorem kw440 : Jvm.Cond.methodLink "WindCardShipsLaw" (32 : Nat) ({ cls := "WindCardShips", name := "ship", desc := "(II)I" } : Jvm.MethodName) ∈ WSa := wsa_i 440 _ (by decide +kernel) (by decide +kernel)
theorem kw441 : Jvm.Cond.instanceMethod ({ cls := "WindCardShips", name := "ship", desc := "(II)I" } : Jvm.MethodName) ∈ WSa := wsa_i 441 _ (by decide +kernel) (by decide +kernel)
theorem kw442 : Jvm.Cond.selects "WindCardShips" ({ cls := "WindCardShips", name := "ship", desc := "(II)I" } : Jvm.MethodName) ({ cls := "WindCardShips", name := "ship", desc := "(II)I" } : Jvm.MethodName) ∈ WSa := wsa_i 442 _ (by decide +kernel) (by decide +kernel)
theorem kw443 : Jvm.Cond.code ({ cls := "WindCardShips", name := "ship", desc := "(II)I" } : Jvm.MethodName) prog_1_method_20_code (4 : Nat) (Option.some Jvm.ClassFile.FieldType.int) ∈ WSa := wsa_i 443 _ (by decide +kernel) (by decide +kernel)
theorem kw444 : Jvm.Cond.methodLink "WindCardShips" (145 : Nat) ({ cls := "WindCardShips$Game", name := "known", desc := "(I)LWindCardShips$Ship;" } : Jvm.MethodName) ∈ WSa := wsa_i 444 _ (by decide +kernel) (by decide +kernel)
theorem kw445 : Jvm.Cond.methodLink "WindCardShips" (149 : Nat) ({ cls := "WindCardShips$Game", name := "tellOfShip", desc := "(LWindCardShips$Ship;I)I" } : Jvm.MethodName) ∈ WSa := wsa_i 445 _ (by decide +kernel) (by decide +kernel)
theorem kw446 : Jvm.Cond.instanceMethod ({ cls := "WindCardShips$Game", name := "tellOfShip", desc := "(LWindCardShips$Ship;I)I" } : Jvm.MethodName) ∈ WSa := wsa_i 446 _ (by decide +kernel) (by decide +kernel)
theorem kw447 : Jvm.Cond.selects "WindCardShips$Game" ({ cls := "WindCardShips$Game", name := "tellOfShip", desc := "(LWindCardShips$Ship;I)I" } : Jvm.MethodName) ({ cls := "WindCardShips$Game", name := "tellOfShip", desc := "(LWindCardShips$Ship;I)I" } : Jvm.MethodName) ∈ WSa := wsa_i 447 _ (by decide +kernel) (by decide +kernel)
theorem kw448 : Jvm.Cond.code ({ cls := "WindCardShips$Game", name := "tellOfShip", desc := "(LWindCardShips$Ship;I)I" } : Jvm.MethodName) prog_3_method_40_code (3 : Nat) (Option.some Jvm.ClassFile.FieldType.int) ∈ WSa := wsa_i 448 _ (by decide +kernel) (by decide +kernel)
theorem kw449 : Jvm.Cond.methodLink "WindCardShips$Game" (172 : Nat) ({ cls := "WindCardShips$Game", name := "stepsNow", desc := "(LWindCardShips$Ship;)I" } : Jvm.MethodName) ∈ WSa := wsa_i 449 _ (by decide +kernel) (by decide +kernel)
theorem kw450 : Jvm.Cond.instanceMethod ({ cls := "WindCardShips$Game", name := "stepsNow", desc := "(LWindCardShips$Ship;)I" } : Jvm.MethodName) ∈ WSa := wsa_i 450 _ (by decide +kernel) (by decide +kernel)
theorem kw451 : Jvm.Cond.selects "WindCardShips$Game" ({ cls := "WindCardShips$Game", name := "stepsNow", desc := "(LWindCardShips$Ship;)I" } : Jvm.MethodName) ({ cls := "WindCardShips$Game", name := "stepsNow", desc := "(LWindCardShips$Ship;)I" } : Jvm.MethodName) ∈ WSa := wsa_i 451 _ (by decide +kernel) (by decide +kernel)
theorem kw452 : Jvm.Cond.code ({ cls := "WindCardShips$Game", name := "stepsNow", desc := "(LWindCardShips$Ship;)I" } : Jvm.MethodName) prog_3_method_19_code (2 : Nat) (Option.some Jvm.ClassFile.FieldType.int) ∈ WSa := wsa_i 452 _ (by decide +kernel) (by decide +kernel)
theorem kw453 : Jvm.Cond.methodLink "WindCardShips$Game" (155 : Nat) ({ cls := "WindCardShips$Ship", name := "stepsBy", desc := "(II)I" } : Jvm.MethodName) ∈ WSa := wsa_i 453 _ (by decide +kernel) (by decide +kernel)
theorem kw454 : Jvm.Cond.instanceMethod ({ cls := "WindCardShips$Ship", name := "stepsBy", desc := "(II)I" } : Jvm.MethodName) ∈ WSa := wsa_i 454 _ (by decide +kernel) (by decide +kernel)
theorem kw455 : Jvm.Cond.selects "WindCardShips$Ship" ({ cls := "WindCardShips$Ship", name := "stepsBy", desc := "(II)I" } : Jvm.MethodName) ({ cls := "WindCardShips$Ship", name := "stepsBy", desc := "(II)I" } : Jvm.MethodName) ∈ WSa := wsa_i 455 _ (by decide +kernel) (by decide +kernel)
theorem kw456 : Jvm.Cond.code ({ cls := "WindCardShips$Ship", name := "stepsBy", desc := "(II)I" } : Jvm.MethodName) prog_9_method_7_code (3 : Nat) (Option.some Jvm.ClassFile.FieldType.int) ∈ WSa := wsa_i 456 _ (by decide +kernel) (by decide +kernel)
theorem kw457 : Jvm.Cond.methodLink "WindCardShips$Ship" (48 : Nat) ({ cls := "WindCardShips$Ship", name := "floats", desc := "()Z" } : Jvm.MethodName) ∈ WSa := wsa_i 457 _ (by decide +kernel) (by decide +kernel)
theorem kw458 : Jvm.Cond.methodLink "WindCardShips$Ship" (52 : Nat) ({ cls := "WindCardShips$Ship", name := "isGrappled", desc := "()Z" } : Jvm.MethodName) ∈ WSa := wsa_i 458 _ (by decide +kernel) (by decide +kernel)
theorem kw459 : Jvm.Cond.instanceMethod ({ cls := "WindCardShips$Ship", name := "isGrappled", desc := "()Z" } : Jvm.MethodName) ∈ WSa := wsa_i 459 _ (by decide +kernel) (by decide +kernel)
theorem kw460 : Jvm.Cond.selects "WindCardShips$Ship" ({ cls := "WindCardShips$Ship", name := "isGrappled", desc := "()Z" } : Jvm.MethodName) ({ cls := "WindCardShips$Ship", name := "isGrappled", desc := "()Z" } : Jvm.MethodName) ∈ WSa := wsa_i 460 _ (by decide +kernel) (by decide +kernel)
theorem kw461 : Jvm.Cond.code ({ cls := "WindCardShips$Ship", name := "isGrappled", desc := "()Z" } : Jvm.MethodName) prog_9_method_5_code (1 : Nat) (Option.some Jvm.ClassFile.FieldType.boolean) ∈ WSa := wsa_i 461 _ (by decide +kernel) (by decide +kernel)
theorem kw462 : Jvm.Cond.methodLink "WindCardShips$Ship" (55 : Nat) ({ cls := "WindCardShips$Ship", name := "speedFactor", desc := "(I)I" } : Jvm.MethodName) ∈ WSa := wsa_i 462 _ (by decide +kernel) (by decide +kernel)
theorem kw464 : Jvm.Cond.instanceMethod ({ cls := "WindCardShips$Ship", name := "speedFactor", desc := "(I)I" } : Jvm.MethodName) ∈ WSa := wsa_i 464 _ (by decide +kernel) (by decide +kernel)
theorem kw465 : Jvm.Cond.code ({ cls := "WindCardShips$Ship", name := "speedFactor", desc := "(I)I" } : Jvm.MethodName) prog_9_method_8_code (3 : Nat) (Option.some Jvm.ClassFile.FieldType.int) ∈ WSa := wsa_i 465 _ (by decide +kernel) (by decide +kernel)
theorem kw466 : Jvm.Cond.methodLink "WindCardShips$Ship" (59 : Nat) ({ cls := "java/lang/Math", name := "min", desc := "(II)I" } : Jvm.MethodName) ∈ WSa := wsa_i 466 _ (by decide +kernel) (by decide +kernel)
theorem kw467 : Jvm.Cond.methodLink "WindCardShips$Game" (253 : Nat) ({ cls := "WindCardShips$Ship", name := "reloadingSides", desc := "(I)I" } : Jvm.MethodName) ∈ WSa := wsa_i 467 _ (by decide +kernel) (by decide +kernel)
theorem kw468 : Jvm.Cond.instanceMethod ({ cls := "WindCardShips$Ship", name := "reloadingSides", desc := "(I)I" } : Jvm.MethodName) ∈ WSa := wsa_i 468 _ (by decide +kernel) (by decide +kernel)
theorem kw469 : Jvm.Cond.selects "WindCardShips$Ship" ({ cls := "WindCardShips$Ship", name := "reloadingSides", desc := "(I)I" } : Jvm.MethodName) ({ cls := "WindCardShips$Ship", name := "reloadingSides", desc := "(I)I" } : Jvm.MethodName) ∈ WSa := wsa_i 469 _ (by decide +kernel) (by decide +kernel)
theorem kw470 : Jvm.Cond.code ({ cls := "WindCardShips$Ship", name := "reloadingSides", desc := "(I)I" } : Jvm.MethodName) prog_9_method_12_code (2 : Nat) (Option.some Jvm.ClassFile.FieldType.int) ∈ WSa := wsa_i 470 _ (by decide +kernel) (by decide +kernel)
theorem kw471 : Jvm.Cond.methodLink "WindCardShipsLaw" (97 : Nat) ({ cls := "WindCardShipsLaw", name := "isAll", desc := "(LWindCardShips;)Z" } : Jvm.MethodName) ∈ WSa := wsa_i 471 _ (by decide +kernel) (by decide +kernel)
theorem kw472 : Jvm.Cond.static ({ cls := "WindCardShipsLaw", name := "isAll", desc := "(LWindCardShips;)Z" } : Jvm.MethodName) ∈ WSa := wsa_i 472 _ (by decide +kernel) (by decide +kernel)
theorem kw473 : Jvm.Cond.code ({ cls := "WindCardShipsLaw", name := "isAll", desc := "(LWindCardShips;)Z" } : Jvm.MethodName) method_5_code (11 : Nat) (Option.some Jvm.ClassFile.FieldType.boolean) ∈ WSa := wsa_i 473 _ (by decide +kernel) (by decide +kernel)
theorem kw474 : Jvm.Cond.methodLink "WindCardShipsLaw" (35 : Nat) ({ cls := "WindCardShips", name := "captain", desc := "(II)I" } : Jvm.MethodName) ∈ WSa := wsa_i 474 _ (by decide +kernel) (by decide +kernel)
theorem kw475 : Jvm.Cond.instanceMethod ({ cls := "WindCardShips", name := "captain", desc := "(II)I" } : Jvm.MethodName) ∈ WSa := wsa_i 475 _ (by decide +kernel) (by decide +kernel)
theorem kw476 : Jvm.Cond.selects "WindCardShips" ({ cls := "WindCardShips", name := "captain", desc := "(II)I" } : Jvm.MethodName) ({ cls := "WindCardShips", name := "captain", desc := "(II)I" } : Jvm.MethodName) ∈ WSa := wsa_i 476 _ (by decide +kernel) (by decide +kernel)
theorem kw477 : Jvm.Cond.code ({ cls := "WindCardShips", name := "captain", desc := "(II)I" } : Jvm.MethodName) prog_1_method_19_code (3 : Nat) (Option.some Jvm.ClassFile.FieldType.int) ∈ WSa := wsa_i 477 _ (by decide +kernel) (by decide +kernel)
theorem kw478 : Jvm.Cond.methodLink "WindCardShips" (142 : Nat) ({ cls := "WindCardShips$Game", name := "tellOfCaptain", desc := "(II)I" } : Jvm.MethodName) ∈ WSa := wsa_i 478 _ (by decide +kernel) (by decide +kernel)
theorem kw479 : Jvm.Cond.instanceMethod ({ cls := "WindCardShips$Game", name := "tellOfCaptain", desc := "(II)I" } : Jvm.MethodName) ∈ WSa := wsa_i 479 _ (by decide +kernel) (by decide +kernel)
theorem kw480 : Jvm.Cond.selects "WindCardShips$Game" ({ cls := "WindCardShips$Game", name := "tellOfCaptain", desc := "(II)I" } : Jvm.MethodName) ({ cls := "WindCardShips$Game", name := "tellOfCaptain", desc := "(II)I" } : Jvm.MethodName) ∈ WSa := wsa_i 480 _ (by decide +kernel) (by decide +kernel)
theorem kw481 : Jvm.Cond.code ({ cls := "WindCardShips$Game", name := "tellOfCaptain", desc := "(II)I" } : Jvm.MethodName) prog_3_method_39_code (4 : Nat) (Option.some Jvm.ClassFile.FieldType.int) ∈ WSa := wsa_i 481 _ (by decide +kernel) (by decide +kernel)
theorem kw482 : Jvm.Cond.methodLink "WindCardShips$Game" (123 : Nat) ({ cls := "WindCardShips$Game", name := "captainOf", desc := "(I)LWindCardShips$Captain;" } : Jvm.MethodName) ∈ WSa := wsa_i 482 _ (by decide +kernel) (by decide +kernel)
theorem kw484 : Jvm.Cond.instanceMethod ({ cls := "WindCardShips$Game", name := "captainOf", desc := "(I)LWindCardShips$Captain;" } : Jvm.MethodName) ∈ WSa := wsa_i 484 _ (by decide +kernel) (by decide +kernel)
theorem kw485 : Jvm.Cond.code ({ cls := "WindCardShips$Game", name := "captainOf", desc := "(I)LWindCardShips$Captain;" } : Jvm.MethodName) prog_3_method_4_code (2 : Nat) (Option.some (Jvm.ClassFile.FieldType.object "WindCardShips$Captain")) ∈ WSa := wsa_i 485 _ (by decide +kernel) (by decide +kernel)
theorem kw486 : Jvm.Cond.methodLink "WindCardShips$Game" (250 : Nat) ({ cls := "WindCardShips$Game", name := "hullsOf", desc := "(I)I" } : Jvm.MethodName) ∈ WSa := wsa_i 486 _ (by decide +kernel) (by decide +kernel)
theorem kw488 : Jvm.Cond.instanceMethod ({ cls := "WindCardShips$Game", name := "hullsOf", desc := "(I)I" } : Jvm.MethodName) ∈ WSa := wsa_i 488 _ (by decide +kernel) (by decide +kernel)
theorem kw489 : Jvm.Cond.code ({ cls := "WindCardShips$Game", name := "hullsOf", desc := "(I)I" } : Jvm.MethodName) prog_3_method_37_code (7 : Nat) (Option.some Jvm.ClassFile.FieldType.int) ∈ WSa := wsa_i 489 _ (by decide +kernel) (by decide +kernel)
theorem kw490 : Jvm.Cond.methodLink "WindCardShipsLaw" (38 : Nat) ({ cls := "WindCardShips", name := "targets", desc := "(II)I" } : Jvm.MethodName) ∈ WSa := wsa_i 490 _ (by decide +kernel) (by decide +kernel)
theorem kw491 : Jvm.Cond.instanceMethod ({ cls := "WindCardShips", name := "targets", desc := "(II)I" } : Jvm.MethodName) ∈ WSa := wsa_i 491 _ (by decide +kernel) (by decide +kernel)
theorem kw492 : Jvm.Cond.selects "WindCardShips" ({ cls := "WindCardShips", name := "targets", desc := "(II)I" } : Jvm.MethodName) ({ cls := "WindCardShips", name := "targets", desc := "(II)I" } : Jvm.MethodName) ∈ WSa := wsa_i 492 _ (by decide +kernel) (by decide +kernel)
theorem kw493 : Jvm.Cond.code ({ cls := "WindCardShips", name := "targets", desc := "(II)I" } : Jvm.MethodName) prog_1_method_22_code (4 : Nat) (Option.some Jvm.ClassFile.FieldType.int) ∈ WSa := wsa_i 493 _ (by decide +kernel) (by decide +kernel)
theorem kw494 : Jvm.Cond.methodLink "WindCardShips" (159 : Nat) ({ cls := "WindCardShips$Ship", name := "hasSide", desc := "(I)Z" } : Jvm.MethodName) ∈ WSa := wsa_i 494 _ (by decide +kernel) (by decide +kernel)
theorem kw495 : Jvm.Cond.static ({ cls := "WindCardShips$Ship", name := "hasSide", desc := "(I)Z" } : Jvm.MethodName) ∈ WSa := wsa_i 495 _ (by decide +kernel) (by decide +kernel)
theorem kw496 : Jvm.Cond.code ({ cls := "WindCardShips$Ship", name := "hasSide", desc := "(I)Z" } : Jvm.MethodName) prog_9_method_2_code (1 : Nat) (Option.some Jvm.ClassFile.FieldType.boolean) ∈ WSa := wsa_i 496 _ (by decide +kernel) (by decide +kernel)
theorem kw497 : Jvm.Cond.methodLink "WindCardShips" (164 : Nat) ({ cls := "WindCardShips$Game", name := "targetSet", desc := "(LWindCardShips$Ship;I)I" } : Jvm.MethodName) ∈ WSa := wsa_i 497 _ (by decide +kernel) (by decide +kernel)
theorem kw498 : Jvm.Cond.instanceMethod ({ cls := "WindCardShips$Game", name := "targetSet", desc := "(LWindCardShips$Ship;I)I" } : Jvm.MethodName) ∈ WSa := wsa_i 498 _ (by decide +kernel) (by decide +kernel)
theorem kw499 : Jvm.Cond.selects "WindCardShips$Game" ({ cls := "WindCardShips$Game", name := "targetSet", desc := "(LWindCardShips$Ship;I)I" } : Jvm.MethodName) ({ cls := "WindCardShips$Game", name := "targetSet", desc := "(LWindCardShips$Ship;I)I" } : Jvm.MethodName) ∈ WSa := wsa_i 499 _ (by decide +kernel) (by decide +kernel)
theorem kw500 : Jvm.Cond.code ({ cls := "WindCardShips$Game", name := "targetSet", desc := "(LWindCardShips$Ship;I)I" } : Jvm.MethodName) prog_3_method_24_code (8 : Nat) (Option.some Jvm.ClassFile.FieldType.int) ∈ WSa := wsa_i 500 _ (by decide +kernel) (by decide +kernel)
theorem kw501 : Jvm.Cond.methodLink "WindCardShips$Game" (192 : Nat) ({ cls := "WindCardShips$Game", name := "shotLength", desc := "(LWindCardShips$Ship;ILWindCardShips$Ship;)I" } : Jvm.MethodName) ∈ WSa := wsa_i 501 _ (by decide +kernel) (by decide +kernel)
theorem kw502 : Jvm.Cond.instanceMethod ({ cls := "WindCardShips$Game", name := "shotLength", desc := "(LWindCardShips$Ship;ILWindCardShips$Ship;)I" } : Jvm.MethodName) ∈ WSa := wsa_i 502 _ (by decide +kernel) (by decide +kernel)
theorem kw503 : Jvm.Cond.selects "WindCardShips$Game" ({ cls := "WindCardShips$Game", name := "shotLength", desc := "(LWindCardShips$Ship;ILWindCardShips$Ship;)I" } : Jvm.MethodName) ({ cls := "WindCardShips$Game", name := "shotLength", desc := "(LWindCardShips$Ship;ILWindCardShips$Ship;)I" } : Jvm.MethodName) ∈ WSa := wsa_i 503 _ (by decide +kernel) (by decide +kernel)
theorem kw504 : Jvm.Cond.code ({ cls := "WindCardShips$Game", name := "shotLength", desc := "(LWindCardShips$Ship;ILWindCardShips$Ship;)I" } : Jvm.MethodName) prog_3_method_22_code (6 : Nat) (Option.some Jvm.ClassFile.FieldType.int) ∈ WSa := wsa_i 504 _ (by decide +kernel) (by decide +kernel)
theorem kw505 : Jvm.Cond.methodLink "WindCardShips$Game" (213 : Nat) ({ cls := "WindCardShips$Game", name := "distanceAlong", desc := "(IILWindCardShips$Ship;)I" } : Jvm.MethodName) ∈ WSa := wsa_i 505 _ (by decide +kernel) (by decide +kernel)
theorem kw507 : Jvm.Cond.instanceMethod ({ cls := "WindCardShips$Game", name := "distanceAlong", desc := "(IILWindCardShips$Ship;)I" } : Jvm.MethodName) ∈ WSa := wsa_i 507 _ (by decide +kernel) (by decide +kernel)
theorem kw508 : Jvm.Cond.code ({ cls := "WindCardShips$Game", name := "distanceAlong", desc := "(IILWindCardShips$Ship;)I" } : Jvm.MethodName) prog_3_method_23_code (7 : Nat) (Option.some Jvm.ClassFile.FieldType.int) ∈ WSa := wsa_i 508 _ (by decide +kernel) (by decide +kernel)
theorem kw509 : Jvm.Cond.methodLink "WindCardShips$Game" (87 : Nat) ({ cls := "WindCardShips$Hexes", name := "next", desc := "(II)I" } : Jvm.MethodName) ∈ WSa := wsa_i 509 _ (by decide +kernel) (by decide +kernel)
theorem kw510 : Jvm.Cond.static ({ cls := "WindCardShips$Hexes", name := "next", desc := "(II)I" } : Jvm.MethodName) ∈ WSa := wsa_i 510 _ (by decide +kernel) (by decide +kernel)
theorem kw511 : Jvm.Cond.code ({ cls := "WindCardShips$Hexes", name := "next", desc := "(II)I" } : Jvm.MethodName) prog_4_method_4_code (5 : Nat) (Option.some Jvm.ClassFile.FieldType.int) ∈ WSa := wsa_i 511 _ (by decide +kernel) (by decide +kernel)
theorem kw512 : Jvm.Cond.methodLink "WindCardShips$Hexes" (11 : Nat) ({ cls := "WindCardShips$Hexes", name := "exists", desc := "(I)Z" } : Jvm.MethodName) ∈ WSa := wsa_i 512 _ (by decide +kernel) (by decide +kernel)
theorem kw513 : Jvm.Cond.methodLink "WindCardShips$Hexes" (15 : Nat) ({ cls := "WindCardShips$Hexes", name := "isDirection", desc := "(I)Z" } : Jvm.MethodName) ∈ WSa := wsa_i 513 _ (by decide +kernel) (by decide +kernel)
theorem kw514 : Jvm.Cond.methodLink "WindCardShips$Hexes" (18 : Nat) ({ cls := "WindCardShips$Hexes", name := "rowStep", desc := "(I)I" } : Jvm.MethodName) ∈ WSa := wsa_i 514 _ (by decide +kernel) (by decide +kernel)
theorem kw515 : Jvm.Cond.static ({ cls := "WindCardShips$Hexes", name := "rowStep", desc := "(I)I" } : Jvm.MethodName) ∈ WSa := wsa_i 515 _ (by decide +kernel) (by decide +kernel)
theorem kw516 : Jvm.Cond.code ({ cls := "WindCardShips$Hexes", name := "rowStep", desc := "(I)I" } : Jvm.MethodName) prog_4_method_6_code (1 : Nat) (Option.some Jvm.ClassFile.FieldType.int) ∈ WSa := wsa_i 516 _ (by decide +kernel) (by decide +kernel)
theorem kw517 : Jvm.Cond.methodLink "WindCardShips$Hexes" (22 : Nat) ({ cls := "WindCardShips$Hexes", name := "columnStep", desc := "(I)I" } : Jvm.MethodName) ∈ WSa := wsa_i 517 _ (by decide +kernel) (by decide +kernel)
theorem kw518 : Jvm.Cond.static ({ cls := "WindCardShips$Hexes", name := "columnStep", desc := "(I)I" } : Jvm.MethodName) ∈ WSa := wsa_i 518 _ (by decide +kernel) (by decide +kernel)
theorem kw519 : Jvm.Cond.code ({ cls := "WindCardShips$Hexes", name := "columnStep", desc := "(I)I" } : Jvm.MethodName) prog_4_method_7_code (1 : Nat) (Option.some Jvm.ClassFile.FieldType.int) ∈ WSa := wsa_i 519 _ (by decide +kernel) (by decide +kernel)
theorem kw520 : Jvm.Cond.methodLink "WindCardShipsLaw" (41 : Nat) ({ cls := "WindCardShips", name := "reach", desc := "(I)I" } : Jvm.MethodName) ∈ WSa := wsa_i 520 _ (by decide +kernel) (by decide +kernel)
theorem kw521 : Jvm.Cond.instanceMethod ({ cls := "WindCardShips", name := "reach", desc := "(I)I" } : Jvm.MethodName) ∈ WSa := wsa_i 521 _ (by decide +kernel) (by decide +kernel)
theorem kw522 : Jvm.Cond.selects "WindCardShips" ({ cls := "WindCardShips", name := "reach", desc := "(I)I" } : Jvm.MethodName) ({ cls := "WindCardShips", name := "reach", desc := "(I)I" } : Jvm.MethodName) ∈ WSa := wsa_i 522 _ (by decide +kernel) (by decide +kernel)
theorem kw523 : Jvm.Cond.code ({ cls := "WindCardShips", name := "reach", desc := "(I)I" } : Jvm.MethodName) prog_1_method_25_code (3 : Nat) (Option.some Jvm.ClassFile.FieldType.int) ∈ WSa := wsa_i 523 _ (by decide +kernel) (by decide +kernel)
theorem kw524 : Jvm.Cond.methodLink "WindCardShips" (174 : Nat) ({ cls := "WindCardShips$Game", name := "stepsNow", desc := "(LWindCardShips$Ship;)I" } : Jvm.MethodName) ∈ WSa := wsa_i 524 _ (by decide +kernel) (by decide +kernel)
theorem kw525 : Jvm.Cond.methodLink "WindCardShips" (178 : Nat) ({ cls := "WindCardShips$Routes", name := "explore", desc := "(LWindCardShips$Game;LWindCardShips$Ship;I)V" } : Jvm.MethodName) ∈ WSa := wsa_i 525 _ (by decide +kernel) (by decide +kernel)
theorem kw526 : Jvm.Cond.instanceMethod ({ cls := "WindCardShips$Routes", name := "explore", desc := "(LWindCardShips$Game;LWindCardShips$Ship;I)V" } : Jvm.MethodName) ∈ WSa := wsa_i 526 _ (by decide +kernel) (by decide +kernel)
theorem kw527 : Jvm.Cond.selects "WindCardShips$Routes" ({ cls := "WindCardShips$Routes", name := "explore", desc := "(LWindCardShips$Game;LWindCardShips$Ship;I)V" } : Jvm.MethodName) ({ cls := "WindCardShips$Routes", name := "explore", desc := "(LWindCardShips$Game;LWindCardShips$Ship;I)V" } : Jvm.MethodName) ∈ WSa := wsa_i 527 _ (by decide +kernel) (by decide +kernel)
theorem kw528 : Jvm.Cond.code ({ cls := "WindCardShips$Routes", name := "explore", desc := "(LWindCardShips$Game;LWindCardShips$Ship;I)V" } : Jvm.MethodName) prog_8_method_2_code (6 : Nat) (Option.none : Option Jvm.ClassFile.FieldType) ∈ WSa := wsa_i 528 _ (by decide +kernel) (by decide +kernel)
theorem kw529 : Jvm.Cond.methodLink "WindCardShips$Routes" (23 : Nat) ({ cls := "java/util/Arrays", name := "fill", desc := "([II)V" } : Jvm.MethodName) ∈ WSa := wsa_i 529 _ (by decide +kernel) (by decide +kernel)
theorem kw530 : Jvm.Cond.static ({ cls := "java/util/Arrays", name := "fill", desc := "([II)V" } : Jvm.MethodName) ∈ WSa := wsa_i 530 _ (by decide +kernel) (by decide +kernel)
theorem kw531 : Jvm.Cond.code ({ cls := "java/util/Arrays", name := "fill", desc := "([II)V" } : Jvm.MethodName) prog_16_method_103_code (4 : Nat) (Option.none : Option Jvm.ClassFile.FieldType) ∈ WSa := wsa_i 531 _ (by decide +kernel) (by decide +kernel)
theorem kw532 : Jvm.Cond.methodLink "WindCardShips$Routes" (41 : Nat) ({ cls := "WindCardShips$Routes", name := "note", desc := "(III)V" } : Jvm.MethodName) ∈ WSa := wsa_i 532 _ (by decide +kernel) (by decide +kernel)
theorem kw534 : Jvm.Cond.instanceMethod ({ cls := "WindCardShips$Routes", name := "note", desc := "(III)V" } : Jvm.MethodName) ∈ WSa := wsa_i 534 _ (by decide +kernel) (by decide +kernel)
theorem kw535 : Jvm.Cond.code ({ cls := "WindCardShips$Routes", name := "note", desc := "(III)V" } : Jvm.MethodName) prog_8_method_4_code (5 : Nat) (Option.none : Option Jvm.ClassFile.FieldType) ∈ WSa := wsa_i 535 _ (by decide +kernel) (by decide +kernel)
theorem kw536 : Jvm.Cond.methodLink "WindCardShips$Routes" (65 : Nat) ({ cls := "WindCardShips$Hexes", name := "exists", desc := "(I)Z" } : Jvm.MethodName) ∈ WSa := wsa_i 536 _ (by decide +kernel) (by decide +kernel)
theorem kw537 : Jvm.Cond.methodLink "WindCardShips$Routes" (69 : Nat) ({ cls := "WindCardShips$Hexes", name := "isDirection", desc := "(I)Z" } : Jvm.MethodName) ∈ WSa := wsa_i 537 _ (by decide +kernel) (by decide +kernel)
theorem kw538 : Jvm.Cond.methodLink "WindCardShips$Routes" (45 : Nat) ({ cls := "WindCardShips$Path", name := "stepsOf", desc := "(I)I" } : Jvm.MethodName) ∈ WSa := wsa_i 538 _ (by decide +kernel) (by decide +kernel)
theorem kw539 : Jvm.Cond.static ({ cls := "WindCardShips$Path", name := "stepsOf", desc := "(I)I" } : Jvm.MethodName) ∈ WSa := wsa_i 539 _ (by decide +kernel) (by decide +kernel)
theorem kw540 : Jvm.Cond.code ({ cls := "WindCardShips$Path", name := "stepsOf", desc := "(I)I" } : Jvm.MethodName) prog_7_method_3_code (3 : Nat) (Option.some Jvm.ClassFile.FieldType.int) ∈ WSa := wsa_i 540 _ (by decide +kernel) (by decide +kernel)
theorem kw541 : Jvm.Cond.methodLink "WindCardShips$Routes" (51 : Nat) ({ cls := "WindCardShips$Routes", name := "spread", desc := "(LWindCardShips$Game;LWindCardShips$Ship;II)V" } : Jvm.MethodName) ∈ WSa := wsa_i 541 _ (by decide +kernel) (by decide +kernel)
theorem kw543 : Jvm.Cond.instanceMethod ({ cls := "WindCardShips$Routes", name := "spread", desc := "(LWindCardShips$Game;LWindCardShips$Ship;II)V" } : Jvm.MethodName) ∈ WSa := wsa_i 543 _ (by decide +kernel) (by decide +kernel)
theorem kw544 : Jvm.Cond.code ({ cls := "WindCardShips$Routes", name := "spread", desc := "(LWindCardShips$Game;LWindCardShips$Ship;II)V" } : Jvm.MethodName) prog_8_method_3_code (7 : Nat) (Option.none : Option Jvm.ClassFile.FieldType) ∈ WSa := wsa_i 544 _ (by decide +kernel) (by decide +kernel)
theorem kw545 : Jvm.Cond.methodLink "WindCardShips$Routes" (55 : Nat) ({ cls := "WindCardShips$Game", name := "hexAhead", desc := "(LWindCardShips$Ship;II)I" } : Jvm.MethodName) ∈ WSa := wsa_i 545 _ (by decide +kernel) (by decide +kernel)
theorem kw546 : Jvm.Cond.instanceMethod ({ cls := "WindCardShips$Game", name := "hexAhead", desc := "(LWindCardShips$Ship;II)I" } : Jvm.MethodName) ∈ WSa := wsa_i 546 _ (by decide +kernel) (by decide +kernel)
theorem kw547 : Jvm.Cond.selects "WindCardShips$Game" ({ cls := "WindCardShips$Game", name := "hexAhead", desc := "(LWindCardShips$Ship;II)I" } : Jvm.MethodName) ({ cls := "WindCardShips$Game", name := "hexAhead", desc := "(LWindCardShips$Ship;II)I" } : Jvm.MethodName) ∈ WSa := wsa_i 547 _ (by decide +kernel) (by decide +kernel)
theorem kw548 : Jvm.Cond.code ({ cls := "WindCardShips$Game", name := "hexAhead", desc := "(LWindCardShips$Ship;II)I" } : Jvm.MethodName) prog_3_method_9_code (6 : Nat) (Option.some Jvm.ClassFile.FieldType.int) ∈ WSa := wsa_i 548 _ (by decide +kernel) (by decide +kernel)
theorem kw549 : Jvm.Cond.methodLink "WindCardShips$Routes" (61 : Nat) ({ cls := "WindCardShips$Path", name := "turned", desc := "(II)I" } : Jvm.MethodName) ∈ WSa := wsa_i 549 _ (by decide +kernel) (by decide +kernel)
theorem kw550 : Jvm.Cond.static ({ cls := "WindCardShips$Path", name := "turned", desc := "(II)I" } : Jvm.MethodName) ∈ WSa := wsa_i 550 _ (by decide +kernel) (by decide +kernel)
theorem kw551 : Jvm.Cond.code ({ cls := "WindCardShips$Path", name := "turned", desc := "(II)I" } : Jvm.MethodName) prog_7_method_5_code (2 : Nat) (Option.some Jvm.ClassFile.FieldType.int) ∈ WSa := wsa_i 551 _ (by decide +kernel) (by decide +kernel)
theorem kw552 : Jvm.Cond.methodLink "WindCardShips" (185 : Nat) ({ cls := "WindCardShips$Routes", name := "reachedHexes", desc := "()I" } : Jvm.MethodName) ∈ WSa := wsa_i 552 _ (by decide +kernel) (by decide +kernel)
theorem kw553 : Jvm.Cond.instanceMethod ({ cls := "WindCardShips$Routes", name := "reachedHexes", desc := "()I" } : Jvm.MethodName) ∈ WSa := wsa_i 553 _ (by decide +kernel) (by decide +kernel)
theorem kw554 : Jvm.Cond.selects "WindCardShips$Routes" ({ cls := "WindCardShips$Routes", name := "reachedHexes", desc := "()I" } : Jvm.MethodName) ({ cls := "WindCardShips$Routes", name := "reachedHexes", desc := "()I" } : Jvm.MethodName) ∈ WSa := wsa_i 554 _ (by decide +kernel) (by decide +kernel)
theorem kw555 : Jvm.Cond.code ({ cls := "WindCardShips$Routes", name := "reachedHexes", desc := "()I" } : Jvm.MethodName) prog_8_method_9_code (3 : Nat) (Option.some Jvm.ClassFile.FieldType.int) ∈ WSa := wsa_i 555 _ (by decide +kernel) (by decide +kernel)
theorem kw556 : Jvm.Cond.methodLink "WindCardShips$Routes" (72 : Nat) ({ cls := "WindCardShips$Routes", name := "bestPath", desc := "(I)I" } : Jvm.MethodName) ∈ WSa := wsa_i 556 _ (by decide +kernel) (by decide +kernel)
theorem kw558 : Jvm.Cond.instanceMethod ({ cls := "WindCardShips$Routes", name := "bestPath", desc := "(I)I" } : Jvm.MethodName) ∈ WSa := wsa_i 558 _ (by decide +kernel) (by decide +kernel)
theorem kw559 : Jvm.Cond.code ({ cls := "WindCardShips$Routes", name := "bestPath", desc := "(I)I" } : Jvm.MethodName) prog_8_method_5_code (3 : Nat) (Option.some Jvm.ClassFile.FieldType.int) ∈ WSa := wsa_i 559 _ (by decide +kernel) (by decide +kernel)
theorem kw560 : Jvm.Cond.methodLink "WindCardShipsLaw" (44 : Nat) ({ cls := "WindCardShips", name := "threats", desc := "(I)I" } : Jvm.MethodName) ∈ WSa := wsa_i 560 _ (by decide +kernel) (by decide +kernel)
theorem kw561 : Jvm.Cond.instanceMethod ({ cls := "WindCardShips", name := "threats", desc := "(I)I" } : Jvm.MethodName) ∈ WSa := wsa_i 561 _ (by decide +kernel) (by decide +kernel)
theorem kw562 : Jvm.Cond.selects "WindCardShips" ({ cls := "WindCardShips", name := "threats", desc := "(I)I" } : Jvm.MethodName) ({ cls := "WindCardShips", name := "threats", desc := "(I)I" } : Jvm.MethodName) ∈ WSa := wsa_i 562 _ (by decide +kernel) (by decide +kernel)
theorem kw563 : Jvm.Cond.code ({ cls := "WindCardShips", name := "threats", desc := "(I)I" } : Jvm.MethodName) prog_1_method_28_code (3 : Nat) (Option.some Jvm.ClassFile.FieldType.int) ∈ WSa := wsa_i 563 _ (by decide +kernel) (by decide +kernel)
theorem kw564 : Jvm.Cond.methodLink "WindCardShips" (204 : Nat) ({ cls := "WindCardShips$Game", name := "threatSet", desc := "(LWindCardShips$Ship;)I" } : Jvm.MethodName) ∈ WSa := wsa_i 564 _ (by decide +kernel) (by decide +kernel)
theorem kw565 : Jvm.Cond.instanceMethod ({ cls := "WindCardShips$Game", name := "threatSet", desc := "(LWindCardShips$Ship;)I" } : Jvm.MethodName) ∈ WSa := wsa_i 565 _ (by decide +kernel) (by decide +kernel)
theorem kw566 : Jvm.Cond.selects "WindCardShips$Game" ({ cls := "WindCardShips$Game", name := "threatSet", desc := "(LWindCardShips$Ship;)I" } : Jvm.MethodName) ({ cls := "WindCardShips$Game", name := "threatSet", desc := "(LWindCardShips$Ship;)I" } : Jvm.MethodName) ∈ WSa := wsa_i 566 _ (by decide +kernel) (by decide +kernel)
theorem kw567 : Jvm.Cond.code ({ cls := "WindCardShips$Game", name := "threatSet", desc := "(LWindCardShips$Ship;)I" } : Jvm.MethodName) prog_3_method_25_code (7 : Nat) (Option.some Jvm.ClassFile.FieldType.int) ∈ WSa := wsa_i 567 _ (by decide +kernel) (by decide +kernel)
theorem kw568 : Jvm.Cond.methodLink "WindCardShipsLaw" (47 : Nat) ({ cls := "WindCardShipsLaw", name := "ones", desc := "(I)I" } : Jvm.MethodName) ∈ WSa := wsa_i 568 _ (by decide +kernel) (by decide +kernel)
theorem kw569 : Jvm.Cond.static ({ cls := "WindCardShipsLaw", name := "ones", desc := "(I)I" } : Jvm.MethodName) ∈ WSa := wsa_i 569 _ (by decide +kernel) (by decide +kernel)
theorem kw570 : Jvm.Cond.code ({ cls := "WindCardShipsLaw", name := "ones", desc := "(I)I" } : Jvm.MethodName) method_4_code (3 : Nat) (Option.some Jvm.ClassFile.FieldType.int) ∈ WSa := wsa_i 570 _ (by decide +kernel) (by decide +kernel)
theorem kw571 : Jvm.Cond.methodLink "WindCardShipsLaw" (50 : Nat) ({ cls := "WindCardShips", name := "hits", desc := "(III)I" } : Jvm.MethodName) ∈ WSa := wsa_i 571 _ (by decide +kernel) (by decide +kernel)
theorem kw572 : Jvm.Cond.instanceMethod ({ cls := "WindCardShips", name := "hits", desc := "(III)I" } : Jvm.MethodName) ∈ WSa := wsa_i 572 _ (by decide +kernel) (by decide +kernel)
theorem kw573 : Jvm.Cond.selects "WindCardShips" ({ cls := "WindCardShips", name := "hits", desc := "(III)I" } : Jvm.MethodName) ({ cls := "WindCardShips", name := "hits", desc := "(III)I" } : Jvm.MethodName) ∈ WSa := wsa_i 573 _ (by decide +kernel) (by decide +kernel)
theorem kw574 : Jvm.Cond.code ({ cls := "WindCardShips", name := "hits", desc := "(III)I" } : Jvm.MethodName) prog_1_method_23_code (7 : Nat) (Option.some Jvm.ClassFile.FieldType.int) ∈ WSa := wsa_i 574 _ (by decide +kernel) (by decide +kernel)
theorem kw575 : Jvm.Cond.methodLink "WindCardShips" (167 : Nat) ({ cls := "WindCardShips$Game", name := "shotLength", desc := "(LWindCardShips$Ship;ILWindCardShips$Ship;)I" } : Jvm.MethodName) ∈ WSa := wsa_i 575 _ (by decide +kernel) (by decide +kernel)
theorem kw576 : Jvm.Cond.methodLink "WindCardShips" (171 : Nat) ({ cls := "WindCardShips$Ship", name := "hitsFrom", desc := "(I)I" } : Jvm.MethodName) ∈ WSa := wsa_i 576 _ (by decide +kernel) (by decide +kernel)
theorem kw577 : Jvm.Cond.instanceMethod ({ cls := "WindCardShips$Ship", name := "hitsFrom", desc := "(I)I" } : Jvm.MethodName) ∈ WSa := wsa_i 577 _ (by decide +kernel) (by decide +kernel)
theorem kw578 : Jvm.Cond.selects "WindCardShips$Ship" ({ cls := "WindCardShips$Ship", name := "hitsFrom", desc := "(I)I" } : Jvm.MethodName) ({ cls := "WindCardShips$Ship", name := "hitsFrom", desc := "(I)I" } : Jvm.MethodName) ∈ WSa := wsa_i 578 _ (by decide +kernel) (by decide +kernel)
theorem kw579 : Jvm.Cond.code ({ cls := "WindCardShips$Ship", name := "hitsFrom", desc := "(I)I" } : Jvm.MethodName) prog_9_method_9_code (2 : Nat) (Option.some Jvm.ClassFile.FieldType.int) ∈ WSa := wsa_i 579 _ (by decide +kernel) (by decide +kernel)
theorem kw580 : Jvm.Cond.methodLink "WindCardShipsLaw" (105 : Nat) ({ cls := "WindCardShipsLaw", name := "acts", desc := "(LWindCardShips;I)Z" } : Jvm.MethodName) ∈ WSa := wsa_i 580 _ (by decide +kernel) (by decide +kernel)
theorem kw581 : Jvm.Cond.static ({ cls := "WindCardShipsLaw", name := "acts", desc := "(LWindCardShips;I)Z" } : Jvm.MethodName) ∈ WSa := wsa_i 581 _ (by decide +kernel) (by decide +kernel)
theorem kw582 : Jvm.Cond.code ({ cls := "WindCardShipsLaw", name := "acts", desc := "(LWindCardShips;I)Z" } : Jvm.MethodName) method_7_code (10 : Nat) (Option.some Jvm.ClassFile.FieldType.boolean) ∈ WSa := wsa_i 582 _ (by decide +kernel) (by decide +kernel)
theorem kw583 : Jvm.Cond.methodLink "WindCardShipsLaw" (67 : Nat) ({ cls := "WindCardShipsLaw", name := "isWay", desc := "(LWindCardShips;II)Z" } : Jvm.MethodName) ∈ WSa := wsa_i 583 _ (by decide +kernel) (by decide +kernel)
theorem kw584 : Jvm.Cond.static ({ cls := "WindCardShipsLaw", name := "isWay", desc := "(LWindCardShips;II)Z" } : Jvm.MethodName) ∈ WSa := wsa_i 584 _ (by decide +kernel) (by decide +kernel)
theorem kw585 : Jvm.Cond.code ({ cls := "WindCardShipsLaw", name := "isWay", desc := "(LWindCardShips;II)Z" } : Jvm.MethodName) method_6_code (8 : Nat) (Option.some Jvm.ClassFile.FieldType.boolean) ∈ WSa := wsa_i 585 _ (by decide +kernel) (by decide +kernel)
theorem kw586 : Jvm.Cond.methodLink "WindCardShipsLaw" (57 : Nat) ({ cls := "WindCardShips", name := "way", desc := "(III)I" } : Jvm.MethodName) ∈ WSa := wsa_i 586 _ (by decide +kernel) (by decide +kernel)
theorem kw587 : Jvm.Cond.instanceMethod ({ cls := "WindCardShips", name := "way", desc := "(III)I" } : Jvm.MethodName) ∈ WSa := wsa_i 587 _ (by decide +kernel) (by decide +kernel)
theorem kw588 : Jvm.Cond.selects "WindCardShips" ({ cls := "WindCardShips", name := "way", desc := "(III)I" } : Jvm.MethodName) ({ cls := "WindCardShips", name := "way", desc := "(III)I" } : Jvm.MethodName) ∈ WSa := wsa_i 588 _ (by decide +kernel) (by decide +kernel)
theorem kw589 : Jvm.Cond.code ({ cls := "WindCardShips", name := "way", desc := "(III)I" } : Jvm.MethodName) prog_1_method_24_code (5 : Nat) (Option.some Jvm.ClassFile.FieldType.int) ∈ WSa := wsa_i 589 _ (by decide +kernel) (by decide +kernel)
theorem kw590 : Jvm.Cond.methodLink "WindCardShips" (182 : Nat) ({ cls := "WindCardShips$Routes", name := "tellOfWay", desc := "(II)I" } : Jvm.MethodName) ∈ WSa := wsa_i 590 _ (by decide +kernel) (by decide +kernel)
theorem kw591 : Jvm.Cond.instanceMethod ({ cls := "WindCardShips$Routes", name := "tellOfWay", desc := "(II)I" } : Jvm.MethodName) ∈ WSa := wsa_i 591 _ (by decide +kernel) (by decide +kernel)
theorem kw592 : Jvm.Cond.selects "WindCardShips$Routes" ({ cls := "WindCardShips$Routes", name := "tellOfWay", desc := "(II)I" } : Jvm.MethodName) ({ cls := "WindCardShips$Routes", name := "tellOfWay", desc := "(II)I" } : Jvm.MethodName) ∈ WSa := wsa_i 592 _ (by decide +kernel) (by decide +kernel)
theorem kw593 : Jvm.Cond.code ({ cls := "WindCardShips$Routes", name := "tellOfWay", desc := "(II)I" } : Jvm.MethodName) prog_8_method_7_code (4 : Nat) (Option.some Jvm.ClassFile.FieldType.int) ∈ WSa := wsa_i 593 _ (by decide +kernel) (by decide +kernel)
theorem kw594 : Jvm.Cond.methodLink "WindCardShips$Routes" (75 : Nat) ({ cls := "WindCardShips$Routes", name := "headingAt", desc := "(I)I" } : Jvm.MethodName) ∈ WSa := wsa_i 594 _ (by decide +kernel) (by decide +kernel)
theorem kw596 : Jvm.Cond.instanceMethod ({ cls := "WindCardShips$Routes", name := "headingAt", desc := "(I)I" } : Jvm.MethodName) ∈ WSa := wsa_i 596 _ (by decide +kernel) (by decide +kernel)
theorem kw597 : Jvm.Cond.code ({ cls := "WindCardShips$Routes", name := "headingAt", desc := "(I)I" } : Jvm.MethodName) prog_8_method_8_code (2 : Nat) (Option.some Jvm.ClassFile.FieldType.int) ∈ WSa := wsa_i 597 _ (by decide +kernel) (by decide +kernel)
theorem kw598 : Jvm.Cond.methodLink "WindCardShipsLaw" (60 : Nat) ({ cls := "WindCardShips", name := "sail", desc := "(II)I" } : Jvm.MethodName) ∈ WSa := wsa_i 598 _ (by decide +kernel) (by decide +kernel)
theorem kw599 : Jvm.Cond.instanceMethod ({ cls := "WindCardShips", name := "sail", desc := "(II)I" } : Jvm.MethodName) ∈ WSa := wsa_i 599 _ (by decide +kernel) (by decide +kernel)
theorem kw600 : Jvm.Cond.selects "WindCardShips" ({ cls := "WindCardShips", name := "sail", desc := "(II)I" } : Jvm.MethodName) ({ cls := "WindCardShips", name := "sail", desc := "(II)I" } : Jvm.MethodName) ∈ WSa := wsa_i 600 _ (by decide +kernel) (by decide +kernel)
theorem kw601 : Jvm.Cond.code ({ cls := "WindCardShips", name := "sail", desc := "(II)I" } : Jvm.MethodName) prog_1_method_6_code (3 : Nat) (Option.some Jvm.ClassFile.FieldType.int) ∈ WSa := wsa_i 601 _ (by decide +kernel) (by decide +kernel)
theorem kw602 : Jvm.Cond.methodLink "WindCardShips" (65 : Nat) ({ cls := "WindCardShips$Game", name := "sailAlong", desc := "(II)I" } : Jvm.MethodName) ∈ WSa := wsa_i 602 _ (by decide +kernel) (by decide +kernel)
theorem kw603 : Jvm.Cond.instanceMethod ({ cls := "WindCardShips$Game", name := "sailAlong", desc := "(II)I" } : Jvm.MethodName) ∈ WSa := wsa_i 603 _ (by decide +kernel) (by decide +kernel)
theorem kw604 : Jvm.Cond.selects "WindCardShips$Game" ({ cls := "WindCardShips$Game", name := "sailAlong", desc := "(II)I" } : Jvm.MethodName) ({ cls := "WindCardShips$Game", name := "sailAlong", desc := "(II)I" } : Jvm.MethodName) ∈ WSa := wsa_i 604 _ (by decide +kernel) (by decide +kernel)
theorem kw605 : Jvm.Cond.code ({ cls := "WindCardShips$Game", name := "sailAlong", desc := "(II)I" } : Jvm.MethodName) prog_3_method_20_code (8 : Nat) (Option.some Jvm.ClassFile.FieldType.int) ∈ WSa := wsa_i 605 _ (by decide +kernel) (by decide +kernel)
theorem kw606 : Jvm.Cond.methodLink "WindCardShips$Game" (161 : Nat) ({ cls := "WindCardShips$Path", name := "isPath", desc := "(I)Z" } : Jvm.MethodName) ∈ WSa := wsa_i 606 _ (by decide +kernel) (by decide +kernel)
theorem kw607 : Jvm.Cond.static ({ cls := "WindCardShips$Path", name := "isPath", desc := "(I)Z" } : Jvm.MethodName) ∈ WSa := wsa_i 607 _ (by decide +kernel) (by decide +kernel)
theorem kw608 : Jvm.Cond.code ({ cls := "WindCardShips$Path", name := "isPath", desc := "(I)Z" } : Jvm.MethodName) prog_7_method_2_code (3 : Nat) (Option.some Jvm.ClassFile.FieldType.boolean) ∈ WSa := wsa_i 608 _ (by decide +kernel) (by decide +kernel)
theorem kw609 : Jvm.Cond.constant "WindCardShips$Path" (9 : Nat) (999999 : Int32) ∈ WSa := wsa_i 609 _ (by decide +kernel) (by decide +kernel)
theorem kw610 : Jvm.Cond.methodLink "WindCardShips$Game" (166 : Nat) ({ cls := "WindCardShips$Ship", name := "has", desc := "(I)Z" } : Jvm.MethodName) ∈ WSa := wsa_i 610 _ (by decide +kernel) (by decide +kernel)
theorem kw611 : Jvm.Cond.instanceMethod ({ cls := "WindCardShips$Ship", name := "has", desc := "(I)Z" } : Jvm.MethodName) ∈ WSa := wsa_i 611 _ (by decide +kernel) (by decide +kernel)
theorem kw612 : Jvm.Cond.selects "WindCardShips$Ship" ({ cls := "WindCardShips$Ship", name := "has", desc := "(I)Z" } : Jvm.MethodName) ({ cls := "WindCardShips$Ship", name := "has", desc := "(I)Z" } : Jvm.MethodName) ∈ WSa := wsa_i 612 _ (by decide +kernel) (by decide +kernel)
theorem kw613 : Jvm.Cond.code ({ cls := "WindCardShips$Ship", name := "has", desc := "(I)Z" } : Jvm.MethodName) prog_9_method_6_code (2 : Nat) (Option.some Jvm.ClassFile.FieldType.boolean) ∈ WSa := wsa_i 613 _ (by decide +kernel) (by decide +kernel)
theorem kw614 : Jvm.Cond.methodLink "WindCardShips$Game" (169 : Nat) ({ cls := "WindCardShips$Path", name := "stepsOf", desc := "(I)I" } : Jvm.MethodName) ∈ WSa := wsa_i 614 _ (by decide +kernel) (by decide +kernel)
theorem kw615 : Jvm.Cond.methodLink "WindCardShips$Game" (176 : Nat) ({ cls := "WindCardShips$Path", name := "unitOf", desc := "(I)I" } : Jvm.MethodName) ∈ WSa := wsa_i 615 _ (by decide +kernel) (by decide +kernel)
theorem kw616 : Jvm.Cond.static ({ cls := "WindCardShips$Path", name := "unitOf", desc := "(I)I" } : Jvm.MethodName) ∈ WSa := wsa_i 616 _ (by decide +kernel) (by decide +kernel)
theorem kw617 : Jvm.Cond.code ({ cls := "WindCardShips$Path", name := "unitOf", desc := "(I)I" } : Jvm.MethodName) prog_7_method_4_code (3 : Nat) (Option.some Jvm.ClassFile.FieldType.int) ∈ WSa := wsa_i 617 _ (by decide +kernel) (by decide +kernel)
theorem kw618 : Jvm.Cond.methodLink "WindCardShips$Game" (179 : Nat) ({ cls := "WindCardShips$Path", name := "turned", desc := "(II)I" } : Jvm.MethodName) ∈ WSa := wsa_i 618 _ (by decide +kernel) (by decide +kernel)
theorem kw619 : Jvm.Cond.methodLink "WindCardShips$Game" (182 : Nat) ({ cls := "WindCardShips$Game", name := "hexAhead", desc := "(LWindCardShips$Ship;II)I" } : Jvm.MethodName) ∈ WSa := wsa_i 619 _ (by decide +kernel) (by decide +kernel)
theorem kw620 : Jvm.Cond.methodLink "WindCardShipsLaw" (71 : Nat) ({ cls := "WindCardShips", name := "fire", desc := "(III)I" } : Jvm.MethodName) ∈ WSa := wsa_i 620 _ (by decide +kernel) (by decide +kernel)
theorem kw621 : Jvm.Cond.instanceMethod ({ cls := "WindCardShips", name := "fire", desc := "(III)I" } : Jvm.MethodName) ∈ WSa := wsa_i 621 _ (by decide +kernel) (by decide +kernel)
theorem kw622 : Jvm.Cond.selects "WindCardShips" ({ cls := "WindCardShips", name := "fire", desc := "(III)I" } : Jvm.MethodName) ({ cls := "WindCardShips", name := "fire", desc := "(III)I" } : Jvm.MethodName) ∈ WSa := wsa_i 622 _ (by decide +kernel) (by decide +kernel)
theorem kw623 : Jvm.Cond.code ({ cls := "WindCardShips", name := "fire", desc := "(III)I" } : Jvm.MethodName) prog_1_method_7_code (4 : Nat) (Option.some Jvm.ClassFile.FieldType.int) ∈ WSa := wsa_i 623 _ (by decide +kernel) (by decide +kernel)
theorem kw624 : Jvm.Cond.methodLink "WindCardShips" (68 : Nat) ({ cls := "WindCardShips$Game", name := "fireAt", desc := "(III)I" } : Jvm.MethodName) ∈ WSa := wsa_i 624 _ (by decide +kernel) (by decide +kernel)
theorem kw625 : Jvm.Cond.instanceMethod ({ cls := "WindCardShips$Game", name := "fireAt", desc := "(III)I" } : Jvm.MethodName) ∈ WSa := wsa_i 625 _ (by decide +kernel) (by decide +kernel)
theorem kw626 : Jvm.Cond.selects "WindCardShips$Game" ({ cls := "WindCardShips$Game", name := "fireAt", desc := "(III)I" } : Jvm.MethodName) ({ cls := "WindCardShips$Game", name := "fireAt", desc := "(III)I" } : Jvm.MethodName) ∈ WSa := wsa_i 626 _ (by decide +kernel) (by decide +kernel)
theorem kw627 : Jvm.Cond.code ({ cls := "WindCardShips$Game", name := "fireAt", desc := "(III)I" } : Jvm.MethodName) prog_3_method_21_code (8 : Nat) (Option.some Jvm.ClassFile.FieldType.int) ∈ WSa := wsa_i 627 _ (by decide +kernel) (by decide +kernel)
theorem kw628 : Jvm.Cond.methodLink "WindCardShips$Game" (189 : Nat) ({ cls := "WindCardShips$Ship", name := "hasSide", desc := "(I)Z" } : Jvm.MethodName) ∈ WSa := wsa_i 628 _ (by decide +kernel) (by decide +kernel)
theorem kw629 : Jvm.Cond.methodLink "WindCardShips$Game" (196 : Nat) ({ cls := "WindCardShips$Ship", name := "isReloading", desc := "(II)Z" } : Jvm.MethodName) ∈ WSa := wsa_i 629 _ (by decide +kernel) (by decide +kernel)
theorem kw630 : Jvm.Cond.instanceMethod ({ cls := "WindCardShips$Ship", name := "isReloading", desc := "(II)Z" } : Jvm.MethodName) ∈ WSa := wsa_i 630 _ (by decide +kernel) (by decide +kernel)
theorem kw631 : Jvm.Cond.selects "WindCardShips$Ship" ({ cls := "WindCardShips$Ship", name := "isReloading", desc := "(II)Z" } : Jvm.MethodName) ({ cls := "WindCardShips$Ship", name := "isReloading", desc := "(II)Z" } : Jvm.MethodName) ∈ WSa := wsa_i 631 _ (by decide +kernel) (by decide +kernel)
theorem kw632 : Jvm.Cond.code ({ cls := "WindCardShips$Ship", name := "isReloading", desc := "(II)Z" } : Jvm.MethodName) prog_9_method_13_code (3 : Nat) (Option.some Jvm.ClassFile.FieldType.boolean) ∈ WSa := wsa_i 632 _ (by decide +kernel) (by decide +kernel)
theorem kw633 : Jvm.Cond.methodLink "WindCardShips$Game" (200 : Nat) ({ cls := "WindCardShips$Ship", name := "hitsFrom", desc := "(I)I" } : Jvm.MethodName) ∈ WSa := wsa_i 633 _ (by decide +kernel) (by decide +kernel)
theorem kw634 : Jvm.Cond.methodLink "WindCardShips$Game" (203 : Nat) ({ cls := "WindCardShips$Ship", name := "suffer", desc := "(I)V" } : Jvm.MethodName) ∈ WSa := wsa_i 634 _ (by decide +kernel) (by decide +kernel)
theorem kw635 : Jvm.Cond.instanceMethod ({ cls := "WindCardShips$Ship", name := "suffer", desc := "(I)V" } : Jvm.MethodName) ∈ WSa := wsa_i 635 _ (by decide +kernel) (by decide +kernel)
theorem kw636 : Jvm.Cond.selects "WindCardShips$Ship" ({ cls := "WindCardShips$Ship", name := "suffer", desc := "(I)V" } : Jvm.MethodName) ({ cls := "WindCardShips$Ship", name := "suffer", desc := "(I)V" } : Jvm.MethodName) ∈ WSa := wsa_i 636 _ (by decide +kernel) (by decide +kernel)
theorem kw637 : Jvm.Cond.code ({ cls := "WindCardShips$Ship", name := "suffer", desc := "(I)V" } : Jvm.MethodName) prog_9_method_10_code (2 : Nat) (Option.none : Option Jvm.ClassFile.FieldType) ∈ WSa := wsa_i 637 _ (by decide +kernel) (by decide +kernel)
theorem kw638 : Jvm.Cond.methodLink "WindCardShips$Ship" (67 : Nat) ({ cls := "java/lang/Math", name := "max", desc := "(II)I" } : Jvm.MethodName) ∈ WSa := wsa_i 638 _ (by decide +kernel) (by decide +kernel)
theorem kw639 : Jvm.Cond.methodLink "WindCardShips$Game" (209 : Nat) ({ cls := "WindCardShips$Ship", name := "noteShot", desc := "(II)V" } : Jvm.MethodName) ∈ WSa := wsa_i 639 _ (by decide +kernel) (by decide +kernel)
theorem kw640 : Jvm.Cond.instanceMethod ({ cls := "WindCardShips$Ship", name := "noteShot", desc := "(II)V" } : Jvm.MethodName) ∈ WSa := wsa_i 640 _ (by decide +kernel) (by decide +kernel)
theorem kw641 : Jvm.Cond.selects "WindCardShips$Ship" ({ cls := "WindCardShips$Ship", name := "noteShot", desc := "(II)V" } : Jvm.MethodName) ({ cls := "WindCardShips$Ship", name := "noteShot", desc := "(II)V" } : Jvm.MethodName) ∈ WSa := wsa_i 641 _ (by decide +kernel) (by decide +kernel)
theorem kw642 : Jvm.Cond.code ({ cls := "WindCardShips$Ship", name := "noteShot", desc := "(II)V" } : Jvm.MethodName) prog_9_method_11_code (3 : Nat) (Option.none : Option Jvm.ClassFile.FieldType) ∈ WSa := wsa_i 642 _ (by decide +kernel) (by decide +kernel)
theorem kw643 : Jvm.Cond.methodLink "WindCardShipsLaw" (74 : Nat) ({ cls := "WindCardShips", name := "grapple", desc := "(II)I" } : Jvm.MethodName) ∈ WSa := wsa_i 643 _ (by decide +kernel) (by decide +kernel)
theorem kw644 : Jvm.Cond.instanceMethod ({ cls := "WindCardShips", name := "grapple", desc := "(II)I" } : Jvm.MethodName) ∈ WSa := wsa_i 644 _ (by decide +kernel) (by decide +kernel)
theorem kw645 : Jvm.Cond.selects "WindCardShips" ({ cls := "WindCardShips", name := "grapple", desc := "(II)I" } : Jvm.MethodName) ({ cls := "WindCardShips", name := "grapple", desc := "(II)I" } : Jvm.MethodName) ∈ WSa := wsa_i 645 _ (by decide +kernel) (by decide +kernel)
theorem kw646 : Jvm.Cond.code ({ cls := "WindCardShips", name := "grapple", desc := "(II)I" } : Jvm.MethodName) prog_1_method_8_code (3 : Nat) (Option.some Jvm.ClassFile.FieldType.int) ∈ WSa := wsa_i 646 _ (by decide +kernel) (by decide +kernel)
theorem kw647 : Jvm.Cond.methodLink "WindCardShips" (72 : Nat) ({ cls := "WindCardShips$Game", name := "grappleTwo", desc := "(II)I" } : Jvm.MethodName) ∈ WSa := wsa_i 647 _ (by decide +kernel) (by decide +kernel)
theorem kw648 : Jvm.Cond.instanceMethod ({ cls := "WindCardShips$Game", name := "grappleTwo", desc := "(II)I" } : Jvm.MethodName) ∈ WSa := wsa_i 648 _ (by decide +kernel) (by decide +kernel)
theorem kw649 : Jvm.Cond.selects "WindCardShips$Game" ({ cls := "WindCardShips$Game", name := "grappleTwo", desc := "(II)I" } : Jvm.MethodName) ({ cls := "WindCardShips$Game", name := "grappleTwo", desc := "(II)I" } : Jvm.MethodName) ∈ WSa := wsa_i 649 _ (by decide +kernel) (by decide +kernel)
theorem kw650 : Jvm.Cond.code ({ cls := "WindCardShips$Game", name := "grappleTwo", desc := "(II)I" } : Jvm.MethodName) prog_3_method_26_code (6 : Nat) (Option.some Jvm.ClassFile.FieldType.int) ∈ WSa := wsa_i 650 _ (by decide +kernel) (by decide +kernel)
theorem kw651 : Jvm.Cond.methodLink "WindCardShips$Game" (217 : Nat) ({ cls := "WindCardShips$Ship", name := "isGrappled", desc := "()Z" } : Jvm.MethodName) ∈ WSa := wsa_i 651 _ (by decide +kernel) (by decide +kernel)
theorem kw652 : Jvm.Cond.methodLink "WindCardShips$Game" (220 : Nat) ({ cls := "WindCardShips$Hexes", name := "areNeighbors", desc := "(II)Z" } : Jvm.MethodName) ∈ WSa := wsa_i 652 _ (by decide +kernel) (by decide +kernel)
theorem kw653 : Jvm.Cond.static ({ cls := "WindCardShips$Hexes", name := "areNeighbors", desc := "(II)Z" } : Jvm.MethodName) ∈ WSa := wsa_i 653 _ (by decide +kernel) (by decide +kernel)
theorem kw654 : Jvm.Cond.code ({ cls := "WindCardShips$Hexes", name := "areNeighbors", desc := "(II)Z" } : Jvm.MethodName) prog_4_method_5_code (3 : Nat) (Option.some Jvm.ClassFile.FieldType.boolean) ∈ WSa := wsa_i 654 _ (by decide +kernel) (by decide +kernel)
theorem kw655 : Jvm.Cond.methodLink "WindCardShips$Hexes" (25 : Nat) ({ cls := "WindCardShips$Hexes", name := "next", desc := "(II)I" } : Jvm.MethodName) ∈ WSa := wsa_i 655 _ (by decide +kernel) (by decide +kernel)
theorem kw656 : Jvm.Cond.methodLink "WindCardShipsLaw" (77 : Nat) ({ cls := "WindCardShips", name := "cut", desc := "(I)I" } : Jvm.MethodName) ∈ WSa := wsa_i 656 _ (by decide +kernel) (by decide +kernel)
theorem kw657 : Jvm.Cond.instanceMethod ({ cls := "WindCardShips", name := "cut", desc := "(I)I" } : Jvm.MethodName) ∈ WSa := wsa_i 657 _ (by decide +kernel) (by decide +kernel)
theorem kw658 : Jvm.Cond.selects "WindCardShips" ({ cls := "WindCardShips", name := "cut", desc := "(I)I" } : Jvm.MethodName) ({ cls := "WindCardShips", name := "cut", desc := "(I)I" } : Jvm.MethodName) ∈ WSa := wsa_i 658 _ (by decide +kernel) (by decide +kernel)
theorem kw659 : Jvm.Cond.code ({ cls := "WindCardShips", name := "cut", desc := "(I)I" } : Jvm.MethodName) prog_1_method_9_code (2 : Nat) (Option.some Jvm.ClassFile.FieldType.int) ∈ WSa := wsa_i 659 _ (by decide +kernel) (by decide +kernel)
theorem kw660 : Jvm.Cond.methodLink "WindCardShips" (75 : Nat) ({ cls := "WindCardShips$Game", name := "cutLoose", desc := "(I)I" } : Jvm.MethodName) ∈ WSa := wsa_i 660 _ (by decide +kernel) (by decide +kernel)
theorem kw661 : Jvm.Cond.instanceMethod ({ cls := "WindCardShips$Game", name := "cutLoose", desc := "(I)I" } : Jvm.MethodName) ∈ WSa := wsa_i 661 _ (by decide +kernel) (by decide +kernel)
theorem kw662 : Jvm.Cond.selects "WindCardShips$Game" ({ cls := "WindCardShips$Game", name := "cutLoose", desc := "(I)I" } : Jvm.MethodName) ({ cls := "WindCardShips$Game", name := "cutLoose", desc := "(I)I" } : Jvm.MethodName) ∈ WSa := wsa_i 662 _ (by decide +kernel) (by decide +kernel)
theorem kw663 : Jvm.Cond.code ({ cls := "WindCardShips$Game", name := "cutLoose", desc := "(I)I" } : Jvm.MethodName) prog_3_method_27_code (4 : Nat) (Option.some Jvm.ClassFile.FieldType.int) ∈ WSa := wsa_i 663 _ (by decide +kernel) (by decide +kernel)
theorem kw664 : Jvm.Cond.methodLink "WindCardShipsLaw" (80 : Nat) ({ cls := "WindCardShips", name := "repair", desc := "(II)I" } : Jvm.MethodName) ∈ WSa := wsa_i 664 _ (by decide +kernel) (by decide +kernel)
theorem kw665 : Jvm.Cond.instanceMethod ({ cls := "WindCardShips", name := "repair", desc := "(II)I" } : Jvm.MethodName) ∈ WSa := wsa_i 665 _ (by decide +kernel) (by decide +kernel)
theorem kw666 : Jvm.Cond.selects "WindCardShips" ({ cls := "WindCardShips", name := "repair", desc := "(II)I" } : Jvm.MethodName) ({ cls := "WindCardShips", name := "repair", desc := "(II)I" } : Jvm.MethodName) ∈ WSa := wsa_i 666 _ (by decide +kernel) (by decide +kernel)
theorem kw667 : Jvm.Cond.code ({ cls := "WindCardShips", name := "repair", desc := "(II)I" } : Jvm.MethodName) prog_1_method_10_code (3 : Nat) (Option.some Jvm.ClassFile.FieldType.int) ∈ WSa := wsa_i 667 _ (by decide +kernel) (by decide +kernel)
theorem kw668 : Jvm.Cond.methodLink "WindCardShips" (78 : Nat) ({ cls := "WindCardShips$Game", name := "mend", desc := "(II)I" } : Jvm.MethodName) ∈ WSa := wsa_i 668 _ (by decide +kernel) (by decide +kernel)
theorem kw669 : Jvm.Cond.instanceMethod ({ cls := "WindCardShips$Game", name := "mend", desc := "(II)I" } : Jvm.MethodName) ∈ WSa := wsa_i 669 _ (by decide +kernel) (by decide +kernel)
theorem kw670 : Jvm.Cond.selects "WindCardShips$Game" ({ cls := "WindCardShips$Game", name := "mend", desc := "(II)I" } : Jvm.MethodName) ({ cls := "WindCardShips$Game", name := "mend", desc := "(II)I" } : Jvm.MethodName) ∈ WSa := wsa_i 670 _ (by decide +kernel) (by decide +kernel)
theorem kw671 : Jvm.Cond.code ({ cls := "WindCardShips$Game", name := "mend", desc := "(II)I" } : Jvm.MethodName) prog_3_method_31_code (6 : Nat) (Option.some Jvm.ClassFile.FieldType.int) ∈ WSa := wsa_i 671 _ (by decide +kernel) (by decide +kernel)
theorem kw672 : Jvm.Cond.methodLink "WindCardShips$Game" (235 : Nat) ({ cls := "WindCardShips$Game", name := "mendable", desc := "(LWindCardShips$Ship;II)I" } : Jvm.MethodName) ∈ WSa := wsa_i 672 _ (by decide +kernel) (by decide +kernel)
theorem kw673 : Jvm.Cond.static ({ cls := "WindCardShips$Game", name := "mendable", desc := "(LWindCardShips$Ship;II)I" } : Jvm.MethodName) ∈ WSa := wsa_i 673 _ (by decide +kernel) (by decide +kernel)
theorem kw674 : Jvm.Cond.code ({ cls := "WindCardShips$Game", name := "mendable", desc := "(LWindCardShips$Ship;II)I" } : Jvm.MethodName) prog_3_method_32_code (3 : Nat) (Option.some Jvm.ClassFile.FieldType.int) ∈ WSa := wsa_i 674 _ (by decide +kernel) (by decide +kernel)
theorem kw675 : Jvm.Cond.methodLink "WindCardShips$Game" (238 : Nat) ({ cls := "java/lang/Math", name := "min", desc := "(II)I" } : Jvm.MethodName) ∈ WSa := wsa_i 675 _ (by decide +kernel) (by decide +kernel)
theorem kw676 : Jvm.Cond.methodLink "WindCardShipsLaw" (101 : Nat) ({ cls := "WindCardShipsLaw", name := "tells", desc := "(LWindCardShips;I)Z" } : Jvm.MethodName) ∈ WSa := wsa_i 676 _ (by decide +kernel) (by decide +kernel)
theorem kw677 : Jvm.Cond.static ({ cls := "WindCardShipsLaw", name := "tells", desc := "(LWindCardShips;I)Z" } : Jvm.MethodName) ∈ WSa := wsa_i 677 _ (by decide +kernel) (by decide +kernel)
theorem kw678 : Jvm.Cond.code ({ cls := "WindCardShipsLaw", name := "tells", desc := "(LWindCardShips;I)Z" } : Jvm.MethodName) method_8_code (6 : Nat) (Option.some Jvm.ClassFile.FieldType.boolean) ∈ WSa := wsa_i 678 _ (by decide +kernel) (by decide +kernel)
theorem kw679 : Jvm.Cond.methodLink "WindCardShipsLaw" (83 : Nat) ({ cls := "WindCardShips", name := "windBy", desc := "(II)I" } : Jvm.MethodName) ∈ WSa := wsa_i 679 _ (by decide +kernel) (by decide +kernel)
theorem kw680 : Jvm.Cond.instanceMethod ({ cls := "WindCardShips", name := "windBy", desc := "(II)I" } : Jvm.MethodName) ∈ WSa := wsa_i 680 _ (by decide +kernel) (by decide +kernel)
theorem kw681 : Jvm.Cond.selects "WindCardShips" ({ cls := "WindCardShips", name := "windBy", desc := "(II)I" } : Jvm.MethodName) ({ cls := "WindCardShips", name := "windBy", desc := "(II)I" } : Jvm.MethodName) ∈ WSa := wsa_i 681 _ (by decide +kernel) (by decide +kernel)
theorem kw682 : Jvm.Cond.code ({ cls := "WindCardShips", name := "windBy", desc := "(II)I" } : Jvm.MethodName) prog_1_method_26_code (4 : Nat) (Option.some Jvm.ClassFile.FieldType.int) ∈ WSa := wsa_i 682 _ (by decide +kernel) (by decide +kernel)
theorem kw683 : Jvm.Cond.methodLink "WindCardShips" (188 : Nat) ({ cls := "WindCardShips$Captain", name := "isCard", desc := "(I)Z" } : Jvm.MethodName) ∈ WSa := wsa_i 683 _ (by decide +kernel) (by decide +kernel)
theorem kw684 : Jvm.Cond.static ({ cls := "WindCardShips$Captain", name := "isCard", desc := "(I)Z" } : Jvm.MethodName) ∈ WSa := wsa_i 684 _ (by decide +kernel) (by decide +kernel)
theorem kw685 : Jvm.Cond.code ({ cls := "WindCardShips$Captain", name := "isCard", desc := "(I)Z" } : Jvm.MethodName) prog_2_method_3_code (1 : Nat) (Option.some Jvm.ClassFile.FieldType.boolean) ∈ WSa := wsa_i 685 _ (by decide +kernel) (by decide +kernel)
theorem kw686 : Jvm.Cond.methodLink "WindCardShips" (191 : Nat) ({ cls := "WindCardShips$Game", name := "directionBy", desc := "(I)I" } : Jvm.MethodName) ∈ WSa := wsa_i 686 _ (by decide +kernel) (by decide +kernel)
theorem kw687 : Jvm.Cond.instanceMethod ({ cls := "WindCardShips$Game", name := "directionBy", desc := "(I)I" } : Jvm.MethodName) ∈ WSa := wsa_i 687 _ (by decide +kernel) (by decide +kernel)
theorem kw688 : Jvm.Cond.selects "WindCardShips$Game" ({ cls := "WindCardShips$Game", name := "directionBy", desc := "(I)I" } : Jvm.MethodName) ({ cls := "WindCardShips$Game", name := "directionBy", desc := "(I)I" } : Jvm.MethodName) ∈ WSa := wsa_i 688 _ (by decide +kernel) (by decide +kernel)
theorem kw689 : Jvm.Cond.code ({ cls := "WindCardShips$Game", name := "directionBy", desc := "(I)I" } : Jvm.MethodName) prog_3_method_16_code (2 : Nat) (Option.some Jvm.ClassFile.FieldType.int) ∈ WSa := wsa_i 689 _ (by decide +kernel) (by decide +kernel)
theorem kw690 : Jvm.Cond.methodLink "WindCardShips" (194 : Nat) ({ cls := "WindCardShips$Game", name := "strengthBy", desc := "(I)I" } : Jvm.MethodName) ∈ WSa := wsa_i 690 _ (by decide +kernel) (by decide +kernel)
theorem kw691 : Jvm.Cond.static ({ cls := "WindCardShips$Game", name := "strengthBy", desc := "(I)I" } : Jvm.MethodName) ∈ WSa := wsa_i 691 _ (by decide +kernel) (by decide +kernel)
theorem kw692 : Jvm.Cond.code ({ cls := "WindCardShips$Game", name := "strengthBy", desc := "(I)I" } : Jvm.MethodName) prog_3_method_17_code (1 : Nat) (Option.some Jvm.ClassFile.FieldType.int) ∈ WSa := wsa_i 692 _ (by decide +kernel) (by decide +kernel)
theorem kw693 : Jvm.Cond.methodLink "WindCardShipsLaw" (89 : Nat) ({ cls := "WindCardShips", name := "tell", desc := "(II)I" } : Jvm.MethodName) ∈ WSa := wsa_i 693 _ (by decide +kernel) (by decide +kernel)
theorem kw694 : Jvm.Cond.instanceMethod ({ cls := "WindCardShips", name := "tell", desc := "(II)I" } : Jvm.MethodName) ∈ WSa := wsa_i 694 _ (by decide +kernel) (by decide +kernel)
theorem kw695 : Jvm.Cond.selects "WindCardShips" ({ cls := "WindCardShips", name := "tell", desc := "(II)I" } : Jvm.MethodName) ({ cls := "WindCardShips", name := "tell", desc := "(II)I" } : Jvm.MethodName) ∈ WSa := wsa_i 695 _ (by decide +kernel) (by decide +kernel)
theorem kw696 : Jvm.Cond.code ({ cls := "WindCardShips", name := "tell", desc := "(II)I" } : Jvm.MethodName) prog_1_method_5_code (3 : Nat) (Option.some Jvm.ClassFile.FieldType.int) ∈ WSa := wsa_i 696 _ (by decide +kernel) (by decide +kernel)
theorem kw697 : Jvm.Cond.methodLink "WindCardShips" (62 : Nat) ({ cls := "WindCardShips$Game", name := "tellCard", desc := "(II)I" } : Jvm.MethodName) ∈ WSa := wsa_i 697 _ (by decide +kernel) (by decide +kernel)
theorem kw698 : Jvm.Cond.instanceMethod ({ cls := "WindCardShips$Game", name := "tellCard", desc := "(II)I" } : Jvm.MethodName) ∈ WSa := wsa_i 698 _ (by decide +kernel) (by decide +kernel)
theorem kw699 : Jvm.Cond.selects "WindCardShips$Game" ({ cls := "WindCardShips$Game", name := "tellCard", desc := "(II)I" } : Jvm.MethodName) ({ cls := "WindCardShips$Game", name := "tellCard", desc := "(II)I" } : Jvm.MethodName) ∈ WSa := wsa_i 699 _ (by decide +kernel) (by decide +kernel)
theorem kw700 : Jvm.Cond.code ({ cls := "WindCardShips$Game", name := "tellCard", desc := "(II)I" } : Jvm.MethodName) prog_3_method_14_code (4 : Nat) (Option.some Jvm.ClassFile.FieldType.int) ∈ WSa := wsa_i 700 _ (by decide +kernel) (by decide +kernel)
theorem kw701 : Jvm.Cond.methodLink "WindCardShips$Game" (130 : Nat) ({ cls := "WindCardShips$Captain", name := "isCard", desc := "(I)Z" } : Jvm.MethodName) ∈ WSa := wsa_i 701 _ (by decide +kernel) (by decide +kernel)
theorem kw702 : Jvm.Cond.methodLink "WindCardShips$Game" (136 : Nat) ({ cls := "WindCardShips$Captain", name := "holds", desc := "(I)Z" } : Jvm.MethodName) ∈ WSa := wsa_i 702 _ (by decide +kernel) (by decide +kernel)
theorem kw703 : Jvm.Cond.instanceMethod ({ cls := "WindCardShips$Captain", name := "holds", desc := "(I)Z" } : Jvm.MethodName) ∈ WSa := wsa_i 703 _ (by decide +kernel) (by decide +kernel)
theorem kw704 : Jvm.Cond.selects "WindCardShips$Captain" ({ cls := "WindCardShips$Captain", name := "holds", desc := "(I)Z" } : Jvm.MethodName) ({ cls := "WindCardShips$Captain", name := "holds", desc := "(I)Z" } : Jvm.MethodName) ∈ WSa := wsa_i 704 _ (by decide +kernel) (by decide +kernel)
theorem kw705 : Jvm.Cond.code ({ cls := "WindCardShips$Captain", name := "holds", desc := "(I)Z" } : Jvm.MethodName) prog_2_method_5_code (2 : Nat) (Option.some Jvm.ClassFile.FieldType.boolean) ∈ WSa := wsa_i 705 _ (by decide +kernel) (by decide +kernel)
theorem kw706 : Jvm.Cond.methodLink "WindCardShips$Captain" (21 : Nat) ({ cls := "WindCardShips$Captain", name := "isCard", desc := "(I)Z" } : Jvm.MethodName) ∈ WSa := wsa_i 706 _ (by decide +kernel) (by decide +kernel)
theorem kw707 : Jvm.Cond.methodLink "WindCardShips$Game" (139 : Nat) ({ cls := "WindCardShips$Game", name := "beginMoves", desc := "()V" } : Jvm.MethodName) ∈ WSa := wsa_i 707 _ (by decide +kernel) (by decide +kernel)
theorem kw709 : Jvm.Cond.instanceMethod ({ cls := "WindCardShips$Game", name := "beginMoves", desc := "()V" } : Jvm.MethodName) ∈ WSa := wsa_i 709 _ (by decide +kernel) (by decide +kernel)
theorem kw710 : Jvm.Cond.code ({ cls := "WindCardShips$Game", name := "beginMoves", desc := "()V" } : Jvm.MethodName) prog_3_method_15_code (2 : Nat) (Option.none : Option Jvm.ClassFile.FieldType) ∈ WSa := wsa_i 710 _ (by decide +kernel) (by decide +kernel)
theorem kw711 : Jvm.Cond.methodLink "WindCardShips$Game" (145 : Nat) ({ cls := "WindCardShips$Game", name := "directionBy", desc := "(I)I" } : Jvm.MethodName) ∈ WSa := wsa_i 711 _ (by decide +kernel) (by decide +kernel)
theorem kw712 : Jvm.Cond.methodLink "WindCardShips$Game" (149 : Nat) ({ cls := "WindCardShips$Game", name := "strengthBy", desc := "(I)I" } : Jvm.MethodName) ∈ WSa := wsa_i 712 _ (by decide +kernel) (by decide +kernel)
theorem kw713 : Jvm.Cond.methodLink "WindCardShips$Game" (152 : Nat) ({ cls := "WindCardShips$Captain", name := "layDownCard", desc := "()V" } : Jvm.MethodName) ∈ WSa := wsa_i 713 _ (by decide +kernel) (by decide +kernel)
theorem kw714 : Jvm.Cond.instanceMethod ({ cls := "WindCardShips$Captain", name := "layDownCard", desc := "()V" } : Jvm.MethodName) ∈ WSa := wsa_i 714 _ (by decide +kernel) (by decide +kernel)
theorem kw715 : Jvm.Cond.selects "WindCardShips$Captain" ({ cls := "WindCardShips$Captain", name := "layDownCard", desc := "()V" } : Jvm.MethodName) ({ cls := "WindCardShips$Captain", name := "layDownCard", desc := "()V" } : Jvm.MethodName) ∈ WSa := wsa_i 715 _ (by decide +kernel) (by decide +kernel)
theorem kw716 : Jvm.Cond.code ({ cls := "WindCardShips$Captain", name := "layDownCard", desc := "()V" } : Jvm.MethodName) prog_2_method_6_code (1 : Nat) (Option.none : Option Jvm.ClassFile.FieldType) ∈ WSa := wsa_i 716 _ (by decide +kernel) (by decide +kernel)
theorem kw717 : Jvm.Cond.methodLink "WindCardShips$Captain" (25 : Nat) ({ cls := "WindCardShips$Captain", name := "holds", desc := "(I)Z" } : Jvm.MethodName) ∈ WSa := wsa_i 717 _ (by decide +kernel) (by decide +kernel)
end
section
theorem dX0_init_0 : decode cX0_init 0 = .ok (.aload_n 0, 1) := by decide +kernel
theorem dX0_init_1 : decode cX0_init 1 = .ok (.invokespecial 3, 3) := by decide +kernel
theorem dX0_init_4 : decode cX0_init 4 = .ok (.aload_n 0, 1) := by decide +kernel
theorem dX0_init_5 : decode cX0_init 5 = .ok (.bipush 63, 2) := by decide +kernel
theorem dX0_init_7 : decode cX0_init 7 = .ok (.putfield 11, 3) := by decide +kernel
theorem dX0_init_10 : decode cX0_init 10 = .ok (.aload_n 0, 1) := by decide +kernel
theorem dX0_init_11 : decode cX0_init 11 = .ok (.bipush (-9), 2) := by decide +kernel
theorem dX0_init_13 : decode cX0_init 13 = .ok (.putfield 15, 3) := by decide +kernel
theorem dX0_init_16 : decode cX0_init 16 = .ok (.aload_n 0, 1) := by decide +kernel
theorem dX0_init_17 : decode cX0_init 17 = .ok (.bipush 10, 2) := by decide +kernel
theorem dX0_init_19 : decode cX0_init 19 = .ok (.putfield 18, 3) := by decide +kernel
theorem dX0_init_22 : decode cX0_init 22 = .ok (.return_, 1) := by decide +kernel
theorem dX0_exists_0 : decode cX0_exists 0 = .ok (.iload_n 0, 1) := by decide +kernel
theorem dX0_exists_1 : decode cX0_exists 1 = .ok (.ifCond .eq 8, 3) := by decide +kernel
theorem dX0_exists_4 : decode cX0_exists 4 = .ok (.iload_n 0, 1) := by decide +kernel
theorem dX0_exists_5 : decode cX0_exists 5 = .ok (.iconst 1, 1) := by decide +kernel
theorem dX0_exists_6 : decode cX0_exists 6 = .ok (.if_icmp .ne 7, 3) := by decide +kernel
theorem dX0_exists_9 : decode cX0_exists 9 = .ok (.iconst 1, 1) := by decide +kernel
theorem dX0_exists_10 : decode cX0_exists 10 = .ok (.goto 4, 3) := by decide +kernel
theorem dX0_exists_13 : decode cX0_exists 13 = .ok (.iconst 0, 1) := by decide +kernel
theorem dX0_exists_14 : decode cX0_exists 14 = .ok (.ireturn, 1) := by decide +kernel
theorem dX0_isCard_0 : decode cX0_isCard 0 = .ok (.iload_n 0, 1) := by decide +kernel
theorem dX0_isCard_1 : decode cX0_isCard 1 = .ok (.ifCond .lt 13, 3) := by decide +kernel
theorem dX0_isCard_4 : decode cX0_isCard 4 = .ok (.iload_n 0, 1) := by decide +kernel
theorem dX0_isCard_5 : decode cX0_isCard 5 = .ok (.bipush 6, 2) := by decide +kernel
theorem dX0_isCard_7 : decode cX0_isCard 7 = .ok (.if_icmp .ge 7, 3) := by decide +kernel
theorem dX0_isCard_10 : decode cX0_isCard 10 = .ok (.iconst 1, 1) := by decide +kernel
theorem dX0_isCard_11 : decode cX0_isCard 11 = .ok (.goto 4, 3) := by decide +kernel
theorem dX0_isCard_14 : decode cX0_isCard 14 = .ok (.iconst 0, 1) := by decide +kernel
theorem dX0_isCard_15 : decode cX0_isCard 15 = .ok (.ireturn, 1) := by decide +kernel
theorem dX0_copyFrom_0 : decode cX0_copyFrom 0 = .ok (.aload_n 0, 1) := by decide +kernel
theorem dX0_copyFrom_1 : decode cX0_copyFrom 1 = .ok (.aload_n 1, 1) := by decide +kernel
theorem dX0_copyFrom_2 : decode cX0_copyFrom 2 = .ok (.getfield 11, 3) := by decide +kernel
theorem dX0_copyFrom_5 : decode cX0_copyFrom 5 = .ok (.putfield 11, 3) := by decide +kernel
theorem dX0_copyFrom_8 : decode cX0_copyFrom 8 = .ok (.aload_n 0, 1) := by decide +kernel
theorem dX0_copyFrom_9 : decode cX0_copyFrom 9 = .ok (.aload_n 1, 1) := by decide +kernel
theorem dX0_copyFrom_10 : decode cX0_copyFrom 10 = .ok (.getfield 15, 3) := by decide +kernel
theorem dX0_copyFrom_13 : decode cX0_copyFrom 13 = .ok (.putfield 15, 3) := by decide +kernel
theorem dX0_copyFrom_16 : decode cX0_copyFrom 16 = .ok (.aload_n 0, 1) := by decide +kernel
theorem dX0_copyFrom_17 : decode cX0_copyFrom 17 = .ok (.aload_n 1, 1) := by decide +kernel
theorem dX0_copyFrom_18 : decode cX0_copyFrom 18 = .ok (.getfield 18, 3) := by decide +kernel
theorem dX0_copyFrom_21 : decode cX0_copyFrom 21 = .ok (.putfield 18, 3) := by decide +kernel
theorem dX0_copyFrom_24 : decode cX0_copyFrom 24 = .ok (.return_, 1) := by decide +kernel
theorem dX0_holds_0 : decode cX0_holds 0 = .ok (.iload_n 1, 1) := by decide +kernel
theorem dX0_holds_1 : decode cX0_holds 1 = .ok (.invokestatic 21, 3) := by decide +kernel
theorem dX0_holds_4 : decode cX0_holds 4 = .ok (.ifCond .eq 19, 3) := by decide +kernel
theorem dX0_holds_7 : decode cX0_holds 7 = .ok (.aload_n 0, 1) := by decide +kernel
theorem dX0_holds_8 : decode cX0_holds 8 = .ok (.getfield 11, 3) := by decide +kernel
theorem dX0_holds_11 : decode cX0_holds 11 = .ok (.iload_n 1, 1) := by decide +kernel
theorem dX0_holds_12 : decode cX0_holds 12 = .ok (.ishr, 1) := by decide +kernel
theorem dX0_holds_13 : decode cX0_holds 13 = .ok (.iconst 1, 1) := by decide +kernel
theorem dX0_holds_14 : decode cX0_holds 14 = .ok (.iand, 1) := by decide +kernel
theorem dX0_holds_15 : decode cX0_holds 15 = .ok (.iconst 1, 1) := by decide +kernel
theorem dX0_holds_16 : decode cX0_holds 16 = .ok (.if_icmp .ne 7, 3) := by decide +kernel
theorem dX0_holds_19 : decode cX0_holds 19 = .ok (.iconst 1, 1) := by decide +kernel
theorem dX0_holds_20 : decode cX0_holds 20 = .ok (.goto 4, 3) := by decide +kernel
theorem dX0_holds_23 : decode cX0_holds 23 = .ok (.iconst 0, 1) := by decide +kernel
theorem dX0_holds_24 : decode cX0_holds 24 = .ok (.ireturn, 1) := by decide +kernel
theorem dX0_layDownCard_0 : decode cX0_layDownCard 0 = .ok (.aload_n 0, 1) := by decide +kernel
theorem dX0_layDownCard_1 : decode cX0_layDownCard 1 = .ok (.aload_n 0, 1) := by decide +kernel
theorem dX0_layDownCard_2 : decode cX0_layDownCard 2 = .ok (.getfield 15, 3) := by decide +kernel
theorem dX0_layDownCard_5 : decode cX0_layDownCard 5 = .ok (.invokevirtual 25, 3) := by decide +kernel
theorem dX0_layDownCard_8 : decode cX0_layDownCard 8 = .ok (.ifCond .eq 18, 3) := by decide +kernel
theorem dX0_layDownCard_11 : decode cX0_layDownCard 11 = .ok (.aload_n 0, 1) := by decide +kernel
theorem dX0_layDownCard_12 : decode cX0_layDownCard 12 = .ok (.dup, 1) := by decide +kernel
theorem dX0_layDownCard_13 : decode cX0_layDownCard 13 = .ok (.getfield 11, 3) := by decide +kernel
theorem dX0_layDownCard_16 : decode cX0_layDownCard 16 = .ok (.iconst 1, 1) := by decide +kernel
theorem dX0_layDownCard_17 : decode cX0_layDownCard 17 = .ok (.aload_n 0, 1) := by decide +kernel
theorem dX0_layDownCard_18 : decode cX0_layDownCard 18 = .ok (.getfield 15, 3) := by decide +kernel
theorem dX0_layDownCard_21 : decode cX0_layDownCard 21 = .ok (.ishl, 1) := by decide +kernel
theorem dX0_layDownCard_22 : decode cX0_layDownCard 22 = .ok (.isub, 1) := by decide +kernel
theorem dX0_layDownCard_23 : decode cX0_layDownCard 23 = .ok (.putfield 11, 3) := by decide +kernel
theorem dX0_layDownCard_26 : decode cX0_layDownCard 26 = .ok (.aload_n 0, 1) := by decide +kernel
theorem dX0_layDownCard_27 : decode cX0_layDownCard 27 = .ok (.bipush (-9), 2) := by decide +kernel
theorem dX0_layDownCard_29 : decode cX0_layDownCard 29 = .ok (.putfield 15, 3) := by decide +kernel
theorem dX0_layDownCard_32 : decode cX0_layDownCard 32 = .ok (.aload_n 0, 1) := by decide +kernel
theorem dX0_layDownCard_33 : decode cX0_layDownCard 33 = .ok (.getfield 11, 3) := by decide +kernel
theorem dX0_layDownCard_36 : decode cX0_layDownCard 36 = .ok (.ifCond .ne 9, 3) := by decide +kernel
theorem dX0_layDownCard_39 : decode cX0_layDownCard 39 = .ok (.aload_n 0, 1) := by decide +kernel
theorem dX0_layDownCard_40 : decode cX0_layDownCard 40 = .ok (.bipush 63, 2) := by decide +kernel
theorem dX0_layDownCard_42 : decode cX0_layDownCard 42 = .ok (.putfield 11, 3) := by decide +kernel
theorem dX0_layDownCard_45 : decode cX0_layDownCard 45 = .ok (.return_, 1) := by decide +kernel
theorem dX1_init_0 : decode cX1_init 0 = .ok (.aload_n 0, 1) := by decide +kernel
theorem dX1_init_1 : decode cX1_init 1 = .ok (.invokespecial 3, 3) := by decide +kernel
theorem dX1_init_4 : decode cX1_init 4 = .ok (.aload_n 0, 1) := by decide +kernel
theorem dX1_init_5 : decode cX1_init 5 = .ok (.iconst 2, 1) := by decide +kernel
theorem dX1_init_6 : decode cX1_init 6 = .ok (.putfield 9, 3) := by decide +kernel
theorem dX1_init_9 : decode cX1_init 9 = .ok (.aload_n 0, 1) := by decide +kernel
theorem dX1_init_10 : decode cX1_init 10 = .ok (.new 15, 3) := by decide +kernel
theorem dX1_init_13 : decode cX1_init 13 = .ok (.dup, 1) := by decide +kernel
theorem dX1_init_14 : decode cX1_init 14 = .ok (.invokespecial 17, 3) := by decide +kernel
theorem dX1_init_17 : decode cX1_init 17 = .ok (.putfield 18, 3) := by decide +kernel
theorem dX1_init_20 : decode cX1_init 20 = .ok (.aload_n 0, 1) := by decide +kernel
theorem dX1_init_21 : decode cX1_init 21 = .ok (.new 15, 3) := by decide +kernel
theorem dX1_init_24 : decode cX1_init 24 = .ok (.dup, 1) := by decide +kernel
theorem dX1_init_25 : decode cX1_init 25 = .ok (.invokespecial 17, 3) := by decide +kernel
theorem dX1_init_28 : decode cX1_init 28 = .ok (.putfield 22, 3) := by decide +kernel
theorem dX1_init_31 : decode cX1_init 31 = .ok (.aload_n 0, 1) := by decide +kernel
theorem dX1_init_32 : decode cX1_init 32 = .ok (.bipush 81, 2) := by decide +kernel
theorem dX1_init_34 : decode cX1_init 34 = .ok (.newarray .int, 2) := by decide +kernel
theorem dX1_init_36 : decode cX1_init 36 = .ok (.putfield 27, 3) := by decide +kernel
theorem dX1_init_39 : decode cX1_init 39 = .ok (.aload_n 0, 1) := by decide +kernel
theorem dX1_init_40 : decode cX1_init 40 = .ok (.bipush 8, 2) := by decide +kernel
theorem dX1_init_42 : decode cX1_init 42 = .ok (.anewarray 31, 3) := by decide +kernel
theorem dX1_init_45 : decode cX1_init 45 = .ok (.putfield 33, 3) := by decide +kernel
theorem dX1_init_48 : decode cX1_init 48 = .ok (.iconst 0, 1) := by decide +kernel
theorem dX1_init_49 : decode cX1_init 49 = .ok (.istore_n 1, 1) := by decide +kernel
theorem dX1_init_50 : decode cX1_init 50 = .ok (.iload_n 1, 1) := by decide +kernel
theorem dX1_init_51 : decode cX1_init 51 = .ok (.aload_n 0, 1) := by decide +kernel
theorem dX1_init_52 : decode cX1_init 52 = .ok (.getfield 33, 3) := by decide +kernel
theorem dX1_init_55 : decode cX1_init 55 = .ok (.arraylength, 1) := by decide +kernel
theorem dX1_init_56 : decode cX1_init 56 = .ok (.if_icmp .ge 23, 3) := by decide +kernel
theorem dX1_init_59 : decode cX1_init 59 = .ok (.aload_n 0, 1) := by decide +kernel
theorem dX1_init_60 : decode cX1_init 60 = .ok (.getfield 33, 3) := by decide +kernel
theorem dX1_init_63 : decode cX1_init 63 = .ok (.iload_n 1, 1) := by decide +kernel
theorem dX1_init_64 : decode cX1_init 64 = .ok (.new 31, 3) := by decide +kernel
theorem dX1_init_67 : decode cX1_init 67 = .ok (.dup, 1) := by decide +kernel
theorem dX1_init_68 : decode cX1_init 68 = .ok (.iload_n 1, 1) := by decide +kernel
theorem dX1_init_69 : decode cX1_init 69 = .ok (.invokespecial 37, 3) := by decide +kernel
theorem dX1_init_72 : decode cX1_init 72 = .ok (.aastore, 1) := by decide +kernel
theorem dX1_init_73 : decode cX1_init 73 = .ok (.iinc 1 1, 3) := by decide +kernel
theorem dX1_init_76 : decode cX1_init 76 = .ok (.goto (-26), 3) := by decide +kernel
theorem dX1_init_79 : decode cX1_init 79 = .ok (.return_, 1) := by decide +kernel
theorem dX1_copyFrom_0 : decode cX1_copyFrom 0 = .ok (.aload_n 0, 1) := by decide +kernel
theorem dX1_copyFrom_1 : decode cX1_copyFrom 1 = .ok (.aload_n 1, 1) := by decide +kernel
theorem dX1_copyFrom_2 : decode cX1_copyFrom 2 = .ok (.getfield 40, 3) := by decide +kernel
theorem dX1_copyFrom_5 : decode cX1_copyFrom 5 = .ok (.putfield 40, 3) := by decide +kernel
theorem dX1_copyFrom_8 : decode cX1_copyFrom 8 = .ok (.aload_n 0, 1) := by decide +kernel
theorem dX1_copyFrom_9 : decode cX1_copyFrom 9 = .ok (.aload_n 1, 1) := by decide +kernel
theorem dX1_copyFrom_10 : decode cX1_copyFrom 10 = .ok (.getfield 43, 3) := by decide +kernel
theorem dX1_copyFrom_13 : decode cX1_copyFrom 13 = .ok (.putfield 43, 3) := by decide +kernel
theorem dX1_copyFrom_16 : decode cX1_copyFrom 16 = .ok (.aload_n 0, 1) := by decide +kernel
theorem dX1_copyFrom_17 : decode cX1_copyFrom 17 = .ok (.aload_n 1, 1) := by decide +kernel
theorem dX1_copyFrom_18 : decode cX1_copyFrom 18 = .ok (.getfield 47, 3) := by decide +kernel
theorem dX1_copyFrom_21 : decode cX1_copyFrom 21 = .ok (.putfield 47, 3) := by decide +kernel
theorem dX1_copyFrom_24 : decode cX1_copyFrom 24 = .ok (.aload_n 0, 1) := by decide +kernel
theorem dX1_copyFrom_25 : decode cX1_copyFrom 25 = .ok (.aload_n 1, 1) := by decide +kernel
theorem dX1_copyFrom_26 : decode cX1_copyFrom 26 = .ok (.getfield 9, 3) := by decide +kernel
theorem dX1_copyFrom_29 : decode cX1_copyFrom 29 = .ok (.putfield 9, 3) := by decide +kernel
theorem dX1_copyFrom_32 : decode cX1_copyFrom 32 = .ok (.aload_n 0, 1) := by decide +kernel
theorem dX1_copyFrom_33 : decode cX1_copyFrom 33 = .ok (.aload_n 1, 1) := by decide +kernel
theorem dX1_copyFrom_34 : decode cX1_copyFrom 34 = .ok (.getfield 50, 3) := by decide +kernel
theorem dX1_copyFrom_37 : decode cX1_copyFrom 37 = .ok (.putfield 50, 3) := by decide +kernel
theorem dX1_copyFrom_40 : decode cX1_copyFrom 40 = .ok (.aload_n 0, 1) := by decide +kernel
theorem dX1_copyFrom_41 : decode cX1_copyFrom 41 = .ok (.aload_n 1, 1) := by decide +kernel
theorem dX1_copyFrom_42 : decode cX1_copyFrom 42 = .ok (.getfield 53, 3) := by decide +kernel
theorem dX1_copyFrom_45 : decode cX1_copyFrom 45 = .ok (.putfield 53, 3) := by decide +kernel
theorem dX1_copyFrom_48 : decode cX1_copyFrom 48 = .ok (.aload_n 0, 1) := by decide +kernel
theorem dX1_copyFrom_49 : decode cX1_copyFrom 49 = .ok (.getfield 18, 3) := by decide +kernel
theorem dX1_copyFrom_52 : decode cX1_copyFrom 52 = .ok (.aload_n 1, 1) := by decide +kernel
theorem dX1_copyFrom_53 : decode cX1_copyFrom 53 = .ok (.getfield 18, 3) := by decide +kernel
theorem dX1_copyFrom_56 : decode cX1_copyFrom 56 = .ok (.invokevirtual 56, 3) := by decide +kernel
theorem dX1_copyFrom_59 : decode cX1_copyFrom 59 = .ok (.aload_n 0, 1) := by decide +kernel
theorem dX1_copyFrom_60 : decode cX1_copyFrom 60 = .ok (.getfield 22, 3) := by decide +kernel
theorem dX1_copyFrom_63 : decode cX1_copyFrom 63 = .ok (.aload_n 1, 1) := by decide +kernel
theorem dX1_copyFrom_64 : decode cX1_copyFrom 64 = .ok (.getfield 22, 3) := by decide +kernel
theorem dX1_copyFrom_67 : decode cX1_copyFrom 67 = .ok (.invokevirtual 56, 3) := by decide +kernel
theorem dX1_copyFrom_70 : decode cX1_copyFrom 70 = .ok (.aload_n 1, 1) := by decide +kernel
theorem dX1_copyFrom_71 : decode cX1_copyFrom 71 = .ok (.getfield 27, 3) := by decide +kernel
theorem dX1_copyFrom_74 : decode cX1_copyFrom 74 = .ok (.iconst 0, 1) := by decide +kernel
theorem dX1_copyFrom_75 : decode cX1_copyFrom 75 = .ok (.aload_n 0, 1) := by decide +kernel
theorem dX1_copyFrom_76 : decode cX1_copyFrom 76 = .ok (.getfield 27, 3) := by decide +kernel
theorem dX1_copyFrom_79 : decode cX1_copyFrom 79 = .ok (.iconst 0, 1) := by decide +kernel
theorem dX1_copyFrom_80 : decode cX1_copyFrom 80 = .ok (.bipush 81, 2) := by decide +kernel
theorem dX1_copyFrom_82 : decode cX1_copyFrom 82 = .ok (.invokestatic 60, 3) := by decide +kernel
theorem dX1_copyFrom_85 : decode cX1_copyFrom 85 = .ok (.iconst 0, 1) := by decide +kernel
theorem dX1_copyFrom_86 : decode cX1_copyFrom 86 = .ok (.istore_n 2, 1) := by decide +kernel
theorem dX1_copyFrom_87 : decode cX1_copyFrom 87 = .ok (.iload_n 2, 1) := by decide +kernel
theorem dX1_copyFrom_88 : decode cX1_copyFrom 88 = .ok (.bipush 8, 2) := by decide +kernel
theorem dX1_copyFrom_90 : decode cX1_copyFrom 90 = .ok (.if_icmp .ge 24, 3) := by decide +kernel
theorem dX1_copyFrom_93 : decode cX1_copyFrom 93 = .ok (.aload_n 0, 1) := by decide +kernel
theorem dX1_copyFrom_94 : decode cX1_copyFrom 94 = .ok (.getfield 33, 3) := by decide +kernel
theorem dX1_copyFrom_97 : decode cX1_copyFrom 97 = .ok (.iload_n 2, 1) := by decide +kernel
theorem dX1_copyFrom_98 : decode cX1_copyFrom 98 = .ok (.aaload, 1) := by decide +kernel
theorem dX1_copyFrom_99 : decode cX1_copyFrom 99 = .ok (.aload_n 1, 1) := by decide +kernel
theorem dX1_copyFrom_100 : decode cX1_copyFrom 100 = .ok (.getfield 33, 3) := by decide +kernel
theorem dX1_copyFrom_103 : decode cX1_copyFrom 103 = .ok (.iload_n 2, 1) := by decide +kernel
theorem dX1_copyFrom_104 : decode cX1_copyFrom 104 = .ok (.aaload, 1) := by decide +kernel
theorem dX1_copyFrom_105 : decode cX1_copyFrom 105 = .ok (.invokevirtual 66, 3) := by decide +kernel
theorem dX1_copyFrom_108 : decode cX1_copyFrom 108 = .ok (.iinc 2 1, 3) := by decide +kernel
theorem dX1_copyFrom_111 : decode cX1_copyFrom 111 = .ok (.goto (-24), 3) := by decide +kernel
theorem dX1_copyFrom_114 : decode cX1_copyFrom 114 = .ok (.return_, 1) := by decide +kernel
theorem dX1_turn_0 : decode cX1_turn 0 = .ok (.aload_n 0, 1) := by decide +kernel
theorem dX1_turn_1 : decode cX1_turn 1 = .ok (.getfield 40, 3) := by decide +kernel
theorem dX1_turn_4 : decode cX1_turn 4 = .ok (.ireturn, 1) := by decide +kernel
theorem dX1_captainOf_0 : decode cX1_captainOf 0 = .ok (.iload_n 1, 1) := by decide +kernel
theorem dX1_captainOf_1 : decode cX1_captainOf 1 = .ok (.ifCond .ne 10, 3) := by decide +kernel
theorem dX1_captainOf_4 : decode cX1_captainOf 4 = .ok (.aload_n 0, 1) := by decide +kernel
theorem dX1_captainOf_5 : decode cX1_captainOf 5 = .ok (.getfield 18, 3) := by decide +kernel
theorem dX1_captainOf_8 : decode cX1_captainOf 8 = .ok (.goto 7, 3) := by decide +kernel
theorem dX1_captainOf_11 : decode cX1_captainOf 11 = .ok (.aload_n 0, 1) := by decide +kernel
theorem dX1_captainOf_12 : decode cX1_captainOf 12 = .ok (.getfield 22, 3) := by decide +kernel
theorem dX1_captainOf_15 : decode cX1_captainOf 15 = .ok (.areturn, 1) := by decide +kernel
theorem dX1_known_0 : decode cX1_known 0 = .ok (.iload_n 1, 1) := by decide +kernel
theorem dX1_known_1 : decode cX1_known 1 = .ok (.ifCond .lt 29, 3) := by decide +kernel
theorem dX1_known_4 : decode cX1_known 4 = .ok (.iload_n 1, 1) := by decide +kernel
theorem dX1_known_5 : decode cX1_known 5 = .ok (.aload_n 0, 1) := by decide +kernel
theorem dX1_known_6 : decode cX1_known 6 = .ok (.getfield 50, 3) := by decide +kernel
theorem dX1_known_9 : decode cX1_known 9 = .ok (.if_icmp .ge 21, 3) := by decide +kernel
theorem dX1_known_12 : decode cX1_known 12 = .ok (.iload_n 1, 1) := by decide +kernel
theorem dX1_known_13 : decode cX1_known 13 = .ok (.aload_n 0, 1) := by decide +kernel
theorem dX1_known_14 : decode cX1_known 14 = .ok (.getfield 33, 3) := by decide +kernel
theorem dX1_known_17 : decode cX1_known 17 = .ok (.arraylength, 1) := by decide +kernel
theorem dX1_known_18 : decode cX1_known 18 = .ok (.if_icmp .ge 12, 3) := by decide +kernel
theorem dX1_known_21 : decode cX1_known 21 = .ok (.aload_n 0, 1) := by decide +kernel
theorem dX1_known_22 : decode cX1_known 22 = .ok (.getfield 33, 3) := by decide +kernel
theorem dX1_known_25 : decode cX1_known 25 = .ok (.iload_n 1, 1) := by decide +kernel
theorem dX1_known_26 : decode cX1_known 26 = .ok (.aaload, 1) := by decide +kernel
theorem dX1_known_27 : decode cX1_known 27 = .ok (.goto 4, 3) := by decide +kernel
theorem dX1_known_30 : decode cX1_known 30 = .ok (.aconst_null, 1) := by decide +kernel
theorem dX1_known_31 : decode cX1_known 31 = .ok (.areturn, 1) := by decide +kernel
theorem dX1_shipOn_0 : decode cX1_shipOn 0 = .ok (.aload_n 0, 1) := by decide +kernel
theorem dX1_shipOn_1 : decode cX1_shipOn 1 = .ok (.getfield 33, 3) := by decide +kernel
theorem dX1_shipOn_4 : decode cX1_shipOn 4 = .ok (.astore_n 2, 1) := by decide +kernel
theorem dX1_shipOn_5 : decode cX1_shipOn 5 = .ok (.aload_n 2, 1) := by decide +kernel
theorem dX1_shipOn_6 : decode cX1_shipOn 6 = .ok (.arraylength, 1) := by decide +kernel
theorem dX1_shipOn_7 : decode cX1_shipOn 7 = .ok (.istore_n 3, 1) := by decide +kernel
theorem dX1_shipOn_8 : decode cX1_shipOn 8 = .ok (.iconst 0, 1) := by decide +kernel
theorem dX1_shipOn_9 : decode cX1_shipOn 9 = .ok (.istore 4, 2) := by decide +kernel
theorem dX1_shipOn_11 : decode cX1_shipOn 11 = .ok (.iload 4, 2) := by decide +kernel
theorem dX1_shipOn_13 : decode cX1_shipOn 13 = .ok (.iload_n 3, 1) := by decide +kernel
theorem dX1_shipOn_14 : decode cX1_shipOn 14 = .ok (.if_icmp .ge 35, 3) := by decide +kernel
theorem dX1_shipOn_17 : decode cX1_shipOn 17 = .ok (.aload_n 2, 1) := by decide +kernel
theorem dX1_shipOn_18 : decode cX1_shipOn 18 = .ok (.iload 4, 2) := by decide +kernel
theorem dX1_shipOn_20 : decode cX1_shipOn 20 = .ok (.aaload, 1) := by decide +kernel
theorem dX1_shipOn_21 : decode cX1_shipOn 21 = .ok (.astore 5, 2) := by decide +kernel
theorem dX1_shipOn_23 : decode cX1_shipOn 23 = .ok (.aload 5, 2) := by decide +kernel
theorem dX1_shipOn_25 : decode cX1_shipOn 25 = .ok (.invokevirtual 69, 3) := by decide +kernel
theorem dX1_shipOn_28 : decode cX1_shipOn 28 = .ok (.ifCond .eq 15, 3) := by decide +kernel
theorem dX1_shipOn_31 : decode cX1_shipOn 31 = .ok (.aload 5, 2) := by decide +kernel
theorem dX1_shipOn_33 : decode cX1_shipOn 33 = .ok (.getfield 73, 3) := by decide +kernel
theorem dX1_shipOn_36 : decode cX1_shipOn 36 = .ok (.iload_n 1, 1) := by decide +kernel
theorem dX1_shipOn_37 : decode cX1_shipOn 37 = .ok (.if_icmp .ne 6, 3) := by decide +kernel
theorem dX1_shipOn_40 : decode cX1_shipOn 40 = .ok (.aload 5, 2) := by decide +kernel
theorem dX1_shipOn_42 : decode cX1_shipOn 42 = .ok (.areturn, 1) := by decide +kernel
theorem dX1_shipOn_43 : decode cX1_shipOn 43 = .ok (.iinc 4 1, 3) := by decide +kernel
theorem dX1_shipOn_46 : decode cX1_shipOn 46 = .ok (.goto (-35), 3) := by decide +kernel
theorem dX1_shipOn_49 : decode cX1_shipOn 49 = .ok (.aconst_null, 1) := by decide +kernel
theorem dX1_shipOn_50 : decode cX1_shipOn 50 = .ok (.areturn, 1) := by decide +kernel
theorem dX1_isIsland_0 : decode cX1_isIsland 0 = .ok (.iload_n 1, 1) := by decide +kernel
theorem dX1_isIsland_1 : decode cX1_isIsland 1 = .ok (.invokestatic 76, 3) := by decide +kernel
theorem dX1_isIsland_4 : decode cX1_isIsland 4 = .ok (.ifCond .eq 17, 3) := by decide +kernel
theorem dX1_isIsland_7 : decode cX1_isIsland 7 = .ok (.aload_n 0, 1) := by decide +kernel
theorem dX1_isIsland_8 : decode cX1_isIsland 8 = .ok (.getfield 27, 3) := by decide +kernel
theorem dX1_isIsland_11 : decode cX1_isIsland 11 = .ok (.iload_n 1, 1) := by decide +kernel
theorem dX1_isIsland_12 : decode cX1_isIsland 12 = .ok (.iaload, 1) := by decide +kernel
theorem dX1_isIsland_13 : decode cX1_isIsland 13 = .ok (.iconst 1, 1) := by decide +kernel
theorem dX1_isIsland_14 : decode cX1_isIsland 14 = .ok (.if_icmp .ne 7, 3) := by decide +kernel
theorem dX1_isIsland_17 : decode cX1_isIsland 17 = .ok (.iconst 1, 1) := by decide +kernel
theorem dX1_isIsland_18 : decode cX1_isIsland 18 = .ok (.goto 4, 3) := by decide +kernel
theorem dX1_isIsland_21 : decode cX1_isIsland 21 = .ok (.iconst 0, 1) := by decide +kernel
theorem dX1_isIsland_22 : decode cX1_isIsland 22 = .ok (.ireturn, 1) := by decide +kernel
theorem dX1_isFree_0 : decode cX1_isFree 0 = .ok (.iload_n 1, 1) := by decide +kernel
theorem dX1_isFree_1 : decode cX1_isFree 1 = .ok (.invokestatic 76, 3) := by decide +kernel
theorem dX1_isFree_4 : decode cX1_isFree 4 = .ok (.ifCond .eq 23, 3) := by decide +kernel
theorem dX1_isFree_7 : decode cX1_isFree 7 = .ok (.aload_n 0, 1) := by decide +kernel
theorem dX1_isFree_8 : decode cX1_isFree 8 = .ok (.iload_n 1, 1) := by decide +kernel
theorem dX1_isFree_9 : decode cX1_isFree 9 = .ok (.invokevirtual 80, 3) := by decide +kernel
theorem dX1_isFree_12 : decode cX1_isFree 12 = .ok (.ifCond .ne 15, 3) := by decide +kernel
theorem dX1_isFree_15 : decode cX1_isFree 15 = .ok (.aload_n 0, 1) := by decide +kernel
theorem dX1_isFree_16 : decode cX1_isFree 16 = .ok (.iload_n 1, 1) := by decide +kernel
theorem dX1_isFree_17 : decode cX1_isFree 17 = .ok (.invokevirtual 83, 3) := by decide +kernel
theorem dX1_isFree_20 : decode cX1_isFree 20 = .ok (.ifnonnull 7, 3) := by decide +kernel
theorem dX1_isFree_23 : decode cX1_isFree 23 = .ok (.iconst 1, 1) := by decide +kernel
theorem dX1_isFree_24 : decode cX1_isFree 24 = .ok (.goto 4, 3) := by decide +kernel
theorem dX1_isFree_27 : decode cX1_isFree 27 = .ok (.iconst 0, 1) := by decide +kernel
theorem dX1_isFree_28 : decode cX1_isFree 28 = .ok (.ireturn, 1) := by decide +kernel
theorem dX1_hexAhead_0 : decode cX1_hexAhead 0 = .ok (.iload_n 2, 1) := by decide +kernel
theorem dX1_hexAhead_1 : decode cX1_hexAhead 1 = .ok (.iload_n 3, 1) := by decide +kernel
theorem dX1_hexAhead_2 : decode cX1_hexAhead 2 = .ok (.invokestatic 87, 3) := by decide +kernel
theorem dX1_hexAhead_5 : decode cX1_hexAhead 5 = .ok (.istore 4, 2) := by decide +kernel
theorem dX1_hexAhead_7 : decode cX1_hexAhead 7 = .ok (.iload 4, 2) := by decide +kernel
theorem dX1_hexAhead_9 : decode cX1_hexAhead 9 = .ok (.aload_n 1, 1) := by decide +kernel
theorem dX1_hexAhead_10 : decode cX1_hexAhead 10 = .ok (.getfield 73, 3) := by decide +kernel
theorem dX1_hexAhead_13 : decode cX1_hexAhead 13 = .ok (.if_icmp .ne 14, 3) := by decide +kernel
theorem dX1_hexAhead_16 : decode cX1_hexAhead 16 = .ok (.iload 4, 2) := by decide +kernel
theorem dX1_hexAhead_18 : decode cX1_hexAhead 18 = .ok (.bipush (-9), 2) := by decide +kernel
theorem dX1_hexAhead_20 : decode cX1_hexAhead 20 = .ok (.if_icmp .eq 7, 3) := by decide +kernel
theorem dX1_hexAhead_23 : decode cX1_hexAhead 23 = .ok (.iconst 1, 1) := by decide +kernel
theorem dX1_hexAhead_24 : decode cX1_hexAhead 24 = .ok (.goto 4, 3) := by decide +kernel
theorem dX1_hexAhead_27 : decode cX1_hexAhead 27 = .ok (.iconst 0, 1) := by decide +kernel
theorem dX1_hexAhead_28 : decode cX1_hexAhead 28 = .ok (.istore 5, 2) := by decide +kernel
theorem dX1_hexAhead_30 : decode cX1_hexAhead 30 = .ok (.iload 5, 2) := by decide +kernel
theorem dX1_hexAhead_32 : decode cX1_hexAhead 32 = .ok (.ifCond .ne 12, 3) := by decide +kernel
theorem dX1_hexAhead_35 : decode cX1_hexAhead 35 = .ok (.aload_n 0, 1) := by decide +kernel
theorem dX1_hexAhead_36 : decode cX1_hexAhead 36 = .ok (.iload 4, 2) := by decide +kernel
theorem dX1_hexAhead_38 : decode cX1_hexAhead 38 = .ok (.invokevirtual 91, 3) := by decide +kernel
theorem dX1_hexAhead_41 : decode cX1_hexAhead 41 = .ok (.ifCond .eq 8, 3) := by decide +kernel
theorem dX1_hexAhead_44 : decode cX1_hexAhead 44 = .ok (.iload 4, 2) := by decide +kernel
theorem dX1_hexAhead_46 : decode cX1_hexAhead 46 = .ok (.goto 5, 3) := by decide +kernel
theorem dX1_hexAhead_49 : decode cX1_hexAhead 49 = .ok (.bipush (-9), 2) := by decide +kernel
theorem dX1_hexAhead_51 : decode cX1_hexAhead 51 = .ok (.ireturn, 1) := by decide +kernel
theorem dX1_contentOf_0 : decode cX1_contentOf 0 = .ok (.aload_n 0, 1) := by decide +kernel
theorem dX1_contentOf_1 : decode cX1_contentOf 1 = .ok (.iload_n 1, 1) := by decide +kernel
theorem dX1_contentOf_2 : decode cX1_contentOf 2 = .ok (.invokevirtual 80, 3) := by decide +kernel
theorem dX1_contentOf_5 : decode cX1_contentOf 5 = .ok (.ifCond .eq 6, 3) := by decide +kernel
theorem dX1_contentOf_8 : decode cX1_contentOf 8 = .ok (.bipush 8, 2) := by decide +kernel
theorem dX1_contentOf_10 : decode cX1_contentOf 10 = .ok (.ireturn, 1) := by decide +kernel
theorem dX1_contentOf_11 : decode cX1_contentOf 11 = .ok (.aload_n 0, 1) := by decide +kernel
theorem dX1_contentOf_12 : decode cX1_contentOf 12 = .ok (.iload_n 1, 1) := by decide +kernel
theorem dX1_contentOf_13 : decode cX1_contentOf 13 = .ok (.invokevirtual 83, 3) := by decide +kernel
theorem dX1_contentOf_16 : decode cX1_contentOf 16 = .ok (.astore_n 2, 1) := by decide +kernel
theorem dX1_contentOf_17 : decode cX1_contentOf 17 = .ok (.aload_n 2, 1) := by decide +kernel
theorem dX1_contentOf_18 : decode cX1_contentOf 18 = .ok (.ifnonnull 8, 3) := by decide +kernel
theorem dX1_contentOf_21 : decode cX1_contentOf 21 = .ok (.bipush (-9), 2) := by decide +kernel
theorem dX1_contentOf_23 : decode cX1_contentOf 23 = .ok (.goto 7, 3) := by decide +kernel
theorem dX1_contentOf_26 : decode cX1_contentOf 26 = .ok (.aload_n 2, 1) := by decide +kernel
theorem dX1_contentOf_27 : decode cX1_contentOf 27 = .ok (.getfield 94, 3) := by decide +kernel
theorem dX1_contentOf_30 : decode cX1_contentOf 30 = .ok (.ireturn, 1) := by decide +kernel
theorem dX1_placeIsland_0 : decode cX1_placeIsland 0 = .ok (.iload_n 1, 1) := by decide +kernel
theorem dX1_placeIsland_1 : decode cX1_placeIsland 1 = .ok (.invokestatic 76, 3) := by decide +kernel
theorem dX1_placeIsland_4 : decode cX1_placeIsland 4 = .ok (.ifCond .eq 12, 3) := by decide +kernel
theorem dX1_placeIsland_7 : decode cX1_placeIsland 7 = .ok (.iload_n 2, 1) := by decide +kernel
theorem dX1_placeIsland_8 : decode cX1_placeIsland 8 = .ok (.ifCond .lt 8, 3) := by decide +kernel
theorem dX1_placeIsland_11 : decode cX1_placeIsland 11 = .ok (.iload_n 2, 1) := by decide +kernel
theorem dX1_placeIsland_12 : decode cX1_placeIsland 12 = .ok (.iconst 1, 1) := by decide +kernel
theorem dX1_placeIsland_13 : decode cX1_placeIsland 13 = .ok (.if_icmp .le 5, 3) := by decide +kernel
theorem dX1_placeIsland_16 : decode cX1_placeIsland 16 = .ok (.iconst (-1), 1) := by decide +kernel
theorem dX1_placeIsland_17 : decode cX1_placeIsland 17 = .ok (.ireturn, 1) := by decide +kernel
theorem dX1_placeIsland_18 : decode cX1_placeIsland 18 = .ok (.aload_n 0, 1) := by decide +kernel
theorem dX1_placeIsland_19 : decode cX1_placeIsland 19 = .ok (.iload_n 1, 1) := by decide +kernel
theorem dX1_placeIsland_20 : decode cX1_placeIsland 20 = .ok (.invokevirtual 83, 3) := by decide +kernel
theorem dX1_placeIsland_23 : decode cX1_placeIsland 23 = .ok (.ifnull 6, 3) := by decide +kernel
theorem dX1_placeIsland_26 : decode cX1_placeIsland 26 = .ok (.bipush (-2), 2) := by decide +kernel
theorem dX1_placeIsland_28 : decode cX1_placeIsland 28 = .ok (.ireturn, 1) := by decide +kernel
theorem dX1_placeIsland_29 : decode cX1_placeIsland 29 = .ok (.aload_n 0, 1) := by decide +kernel
theorem dX1_placeIsland_30 : decode cX1_placeIsland 30 = .ok (.getfield 27, 3) := by decide +kernel
theorem dX1_placeIsland_33 : decode cX1_placeIsland 33 = .ok (.iload_n 1, 1) := by decide +kernel
theorem dX1_placeIsland_34 : decode cX1_placeIsland 34 = .ok (.iload_n 2, 1) := by decide +kernel
theorem dX1_placeIsland_35 : decode cX1_placeIsland 35 = .ok (.iastore, 1) := by decide +kernel
theorem dX1_placeIsland_36 : decode cX1_placeIsland 36 = .ok (.aload_n 0, 1) := by decide +kernel
theorem dX1_placeIsland_37 : decode cX1_placeIsland 37 = .ok (.invokevirtual 97, 3) := by decide +kernel
theorem dX1_placeIsland_40 : decode cX1_placeIsland 40 = .ok (.ireturn, 1) := by decide +kernel
theorem dX1_launch_0 : decode cX1_launch 0 = .ok (.iload_n 1, 1) := by decide +kernel
theorem dX1_launch_1 : decode cX1_launch 1 = .ok (.invokestatic 101, 3) := by decide +kernel
theorem dX1_launch_4 : decode cX1_launch 4 = .ok (.ifCond .eq 55, 3) := by decide +kernel
theorem dX1_launch_7 : decode cX1_launch 7 = .ok (.iload_n 2, 1) := by decide +kernel
theorem dX1_launch_8 : decode cX1_launch 8 = .ok (.invokestatic 76, 3) := by decide +kernel
theorem dX1_launch_11 : decode cX1_launch 11 = .ok (.ifCond .eq 48, 3) := by decide +kernel
theorem dX1_launch_14 : decode cX1_launch 14 = .ok (.iload_n 3, 1) := by decide +kernel
theorem dX1_launch_15 : decode cX1_launch 15 = .ok (.invokestatic 102, 3) := by decide +kernel
theorem dX1_launch_18 : decode cX1_launch 18 = .ok (.ifCond .eq 41, 3) := by decide +kernel
theorem dX1_launch_21 : decode cX1_launch 21 = .ok (.iload 4, 2) := by decide +kernel
theorem dX1_launch_23 : decode cX1_launch 23 = .ok (.iconst 1, 1) := by decide +kernel
theorem dX1_launch_24 : decode cX1_launch 24 = .ok (.if_icmp .lt 35, 3) := by decide +kernel
theorem dX1_launch_27 : decode cX1_launch 27 = .ok (.iload 4, 2) := by decide +kernel
theorem dX1_launch_29 : decode cX1_launch 29 = .ok (.bipush 8, 2) := by decide +kernel
theorem dX1_launch_31 : decode cX1_launch 31 = .ok (.if_icmp .gt 28, 3) := by decide +kernel
theorem dX1_launch_34 : decode cX1_launch 34 = .ok (.iload 5, 2) := by decide +kernel
theorem dX1_launch_36 : decode cX1_launch 36 = .ok (.iconst 1, 1) := by decide +kernel
theorem dX1_launch_37 : decode cX1_launch 37 = .ok (.if_icmp .lt 22, 3) := by decide +kernel
theorem dX1_launch_40 : decode cX1_launch 40 = .ok (.iload 5, 2) := by decide +kernel
theorem dX1_launch_42 : decode cX1_launch 42 = .ok (.bipush 40, 2) := by decide +kernel
theorem dX1_launch_44 : decode cX1_launch 44 = .ok (.if_icmp .gt 15, 3) := by decide +kernel
theorem dX1_launch_47 : decode cX1_launch 47 = .ok (.iload 6, 2) := by decide +kernel
theorem dX1_launch_49 : decode cX1_launch 49 = .ok (.ifCond .lt 10, 3) := by decide +kernel
theorem dX1_launch_52 : decode cX1_launch 52 = .ok (.iload 6, 2) := by decide +kernel
theorem dX1_launch_54 : decode cX1_launch 54 = .ok (.bipush 9, 2) := by decide +kernel
theorem dX1_launch_56 : decode cX1_launch 56 = .ok (.if_icmp .le 5, 3) := by decide +kernel
theorem dX1_launch_59 : decode cX1_launch 59 = .ok (.iconst (-1), 1) := by decide +kernel
theorem dX1_launch_60 : decode cX1_launch 60 = .ok (.ireturn, 1) := by decide +kernel
theorem dX1_launch_61 : decode cX1_launch 61 = .ok (.aload_n 0, 1) := by decide +kernel
theorem dX1_launch_62 : decode cX1_launch 62 = .ok (.iload_n 2, 1) := by decide +kernel
theorem dX1_launch_63 : decode cX1_launch 63 = .ok (.invokevirtual 91, 3) := by decide +kernel
theorem dX1_launch_66 : decode cX1_launch 66 = .ok (.ifCond .ne 6, 3) := by decide +kernel
theorem dX1_launch_69 : decode cX1_launch 69 = .ok (.bipush (-2), 2) := by decide +kernel
theorem dX1_launch_71 : decode cX1_launch 71 = .ok (.ireturn, 1) := by decide +kernel
theorem dX1_launch_72 : decode cX1_launch 72 = .ok (.aload_n 0, 1) := by decide +kernel
theorem dX1_launch_73 : decode cX1_launch 73 = .ok (.getfield 50, 3) := by decide +kernel
theorem dX1_launch_76 : decode cX1_launch 76 = .ok (.aload_n 0, 1) := by decide +kernel
theorem dX1_launch_77 : decode cX1_launch 77 = .ok (.getfield 33, 3) := by decide +kernel
theorem dX1_launch_80 : decode cX1_launch 80 = .ok (.arraylength, 1) := by decide +kernel
theorem dX1_launch_81 : decode cX1_launch 81 = .ok (.if_icmp .lt 6, 3) := by decide +kernel
theorem dX1_launch_84 : decode cX1_launch 84 = .ok (.bipush (-3), 2) := by decide +kernel
theorem dX1_launch_86 : decode cX1_launch 86 = .ok (.ireturn, 1) := by decide +kernel
theorem dX1_launch_87 : decode cX1_launch 87 = .ok (.aload_n 0, 1) := by decide +kernel
theorem dX1_launch_88 : decode cX1_launch 88 = .ok (.getfield 33, 3) := by decide +kernel
theorem dX1_launch_91 : decode cX1_launch 91 = .ok (.aload_n 0, 1) := by decide +kernel
theorem dX1_launch_92 : decode cX1_launch 92 = .ok (.getfield 50, 3) := by decide +kernel
theorem dX1_launch_95 : decode cX1_launch 95 = .ok (.aaload, 1) := by decide +kernel
theorem dX1_launch_96 : decode cX1_launch 96 = .ok (.astore 7, 2) := by decide +kernel
theorem dX1_launch_98 : decode cX1_launch 98 = .ok (.aload 7, 2) := by decide +kernel
theorem dX1_launch_100 : decode cX1_launch 100 = .ok (.iload_n 1, 1) := by decide +kernel
theorem dX1_launch_101 : decode cX1_launch 101 = .ok (.putfield 105, 3) := by decide +kernel
theorem dX1_launch_104 : decode cX1_launch 104 = .ok (.aload 7, 2) := by decide +kernel
theorem dX1_launch_106 : decode cX1_launch 106 = .ok (.iload_n 2, 1) := by decide +kernel
theorem dX1_launch_107 : decode cX1_launch 107 = .ok (.putfield 73, 3) := by decide +kernel
theorem dX1_launch_110 : decode cX1_launch 110 = .ok (.aload 7, 2) := by decide +kernel
theorem dX1_launch_112 : decode cX1_launch 112 = .ok (.iload_n 3, 1) := by decide +kernel
theorem dX1_launch_113 : decode cX1_launch 113 = .ok (.putfield 108, 3) := by decide +kernel
theorem dX1_launch_116 : decode cX1_launch 116 = .ok (.aload 7, 2) := by decide +kernel
theorem dX1_launch_118 : decode cX1_launch 118 = .ok (.bipush 20, 2) := by decide +kernel
theorem dX1_launch_120 : decode cX1_launch 120 = .ok (.putfield 111, 3) := by decide +kernel
theorem dX1_launch_123 : decode cX1_launch 123 = .ok (.aload 7, 2) := by decide +kernel
theorem dX1_launch_125 : decode cX1_launch 125 = .ok (.iload 4, 2) := by decide +kernel
theorem dX1_launch_127 : decode cX1_launch 127 = .ok (.putfield 114, 3) := by decide +kernel
theorem dX1_launch_130 : decode cX1_launch 130 = .ok (.aload 7, 2) := by decide +kernel
theorem dX1_launch_132 : decode cX1_launch 132 = .ok (.iload 5, 2) := by decide +kernel
theorem dX1_launch_134 : decode cX1_launch 134 = .ok (.putfield 117, 3) := by decide +kernel
theorem dX1_launch_137 : decode cX1_launch 137 = .ok (.aload 7, 2) := by decide +kernel
theorem dX1_launch_139 : decode cX1_launch 139 = .ok (.iload 6, 2) := by decide +kernel
theorem dX1_launch_141 : decode cX1_launch 141 = .ok (.putfield 120, 3) := by decide +kernel
theorem dX1_launch_144 : decode cX1_launch 144 = .ok (.aload_n 0, 1) := by decide +kernel
theorem dX1_launch_145 : decode cX1_launch 145 = .ok (.dup, 1) := by decide +kernel
theorem dX1_launch_146 : decode cX1_launch 146 = .ok (.getfield 50, 3) := by decide +kernel
theorem dX1_launch_149 : decode cX1_launch 149 = .ok (.iconst 1, 1) := by decide +kernel
theorem dX1_launch_150 : decode cX1_launch 150 = .ok (.iadd, 1) := by decide +kernel
theorem dX1_launch_151 : decode cX1_launch 151 = .ok (.putfield 50, 3) := by decide +kernel
theorem dX1_launch_154 : decode cX1_launch 154 = .ok (.aload 7, 2) := by decide +kernel
theorem dX1_launch_156 : decode cX1_launch 156 = .ok (.getfield 94, 3) := by decide +kernel
theorem dX1_launch_159 : decode cX1_launch 159 = .ok (.ireturn, 1) := by decide +kernel
theorem dX1_tellCard_0 : decode cX1_tellCard 0 = .ok (.iload_n 1, 1) := by decide +kernel
theorem dX1_tellCard_1 : decode cX1_tellCard 1 = .ok (.invokestatic 101, 3) := by decide +kernel
theorem dX1_tellCard_4 : decode cX1_tellCard 4 = .ok (.ifCond .eq 10, 3) := by decide +kernel
theorem dX1_tellCard_7 : decode cX1_tellCard 7 = .ok (.iload_n 2, 1) := by decide +kernel
theorem dX1_tellCard_8 : decode cX1_tellCard 8 = .ok (.invokestatic 130, 3) := by decide +kernel
theorem dX1_tellCard_11 : decode cX1_tellCard 11 = .ok (.ifCond .ne 5, 3) := by decide +kernel
theorem dX1_tellCard_14 : decode cX1_tellCard 14 = .ok (.iconst (-1), 1) := by decide +kernel
theorem dX1_tellCard_15 : decode cX1_tellCard 15 = .ok (.ireturn, 1) := by decide +kernel
theorem dX1_tellCard_16 : decode cX1_tellCard 16 = .ok (.aload_n 0, 1) := by decide +kernel
theorem dX1_tellCard_17 : decode cX1_tellCard 17 = .ok (.iload_n 1, 1) := by decide +kernel
theorem dX1_tellCard_18 : decode cX1_tellCard 18 = .ok (.invokevirtual 123, 3) := by decide +kernel
theorem dX1_tellCard_21 : decode cX1_tellCard 21 = .ok (.astore_n 3, 1) := by decide +kernel
theorem dX1_tellCard_22 : decode cX1_tellCard 22 = .ok (.aload_n 0, 1) := by decide +kernel
theorem dX1_tellCard_23 : decode cX1_tellCard 23 = .ok (.getfield 43, 3) := by decide +kernel
theorem dX1_tellCard_26 : decode cX1_tellCard 26 = .ok (.ifCond .ne 20, 3) := by decide +kernel
theorem dX1_tellCard_29 : decode cX1_tellCard 29 = .ok (.aload_n 3, 1) := by decide +kernel
theorem dX1_tellCard_30 : decode cX1_tellCard 30 = .ok (.getfield 133, 3) := by decide +kernel
theorem dX1_tellCard_33 : decode cX1_tellCard 33 = .ok (.bipush (-9), 2) := by decide +kernel
theorem dX1_tellCard_35 : decode cX1_tellCard 35 = .ok (.if_icmp .ne 11, 3) := by decide +kernel
theorem dX1_tellCard_38 : decode cX1_tellCard 38 = .ok (.aload_n 3, 1) := by decide +kernel
theorem dX1_tellCard_39 : decode cX1_tellCard 39 = .ok (.iload_n 2, 1) := by decide +kernel
theorem dX1_tellCard_40 : decode cX1_tellCard 40 = .ok (.invokevirtual 136, 3) := by decide +kernel
theorem dX1_tellCard_43 : decode cX1_tellCard 43 = .ok (.ifCond .ne 6, 3) := by decide +kernel
theorem dX1_tellCard_46 : decode cX1_tellCard 46 = .ok (.bipush (-2), 2) := by decide +kernel
theorem dX1_tellCard_48 : decode cX1_tellCard 48 = .ok (.ireturn, 1) := by decide +kernel
theorem dX1_tellCard_49 : decode cX1_tellCard 49 = .ok (.aload_n 3, 1) := by decide +kernel
theorem dX1_tellCard_50 : decode cX1_tellCard 50 = .ok (.iload_n 2, 1) := by decide +kernel
theorem dX1_tellCard_51 : decode cX1_tellCard 51 = .ok (.putfield 133, 3) := by decide +kernel
theorem dX1_tellCard_54 : decode cX1_tellCard 54 = .ok (.aload_n 0, 1) := by decide +kernel
theorem dX1_tellCard_55 : decode cX1_tellCard 55 = .ok (.getfield 18, 3) := by decide +kernel
theorem dX1_tellCard_58 : decode cX1_tellCard 58 = .ok (.getfield 133, 3) := by decide +kernel
theorem dX1_tellCard_61 : decode cX1_tellCard 61 = .ok (.bipush (-9), 2) := by decide +kernel
theorem dX1_tellCard_63 : decode cX1_tellCard 63 = .ok (.if_icmp .eq 19, 3) := by decide +kernel
theorem dX1_tellCard_66 : decode cX1_tellCard 66 = .ok (.aload_n 0, 1) := by decide +kernel
theorem dX1_tellCard_67 : decode cX1_tellCard 67 = .ok (.getfield 22, 3) := by decide +kernel
theorem dX1_tellCard_70 : decode cX1_tellCard 70 = .ok (.getfield 133, 3) := by decide +kernel
theorem dX1_tellCard_73 : decode cX1_tellCard 73 = .ok (.bipush (-9), 2) := by decide +kernel
theorem dX1_tellCard_75 : decode cX1_tellCard 75 = .ok (.if_icmp .eq 7, 3) := by decide +kernel
theorem dX1_tellCard_78 : decode cX1_tellCard 78 = .ok (.aload_n 0, 1) := by decide +kernel
theorem dX1_tellCard_79 : decode cX1_tellCard 79 = .ok (.invokevirtual 139, 3) := by decide +kernel
theorem dX1_tellCard_82 : decode cX1_tellCard 82 = .ok (.aload_n 0, 1) := by decide +kernel
theorem dX1_tellCard_83 : decode cX1_tellCard 83 = .ok (.invokevirtual 142, 3) := by decide +kernel
theorem dX1_tellCard_86 : decode cX1_tellCard 86 = .ok (.ireturn, 1) := by decide +kernel
theorem dX1_beginMoves_0 : decode cX1_beginMoves 0 = .ok (.aload_n 0, 1) := by decide +kernel
theorem dX1_beginMoves_1 : decode cX1_beginMoves 1 = .ok (.getfield 18, 3) := by decide +kernel
theorem dX1_beginMoves_4 : decode cX1_beginMoves 4 = .ok (.getfield 133, 3) := by decide +kernel
theorem dX1_beginMoves_7 : decode cX1_beginMoves 7 = .ok (.aload_n 0, 1) := by decide +kernel
theorem dX1_beginMoves_8 : decode cX1_beginMoves 8 = .ok (.getfield 22, 3) := by decide +kernel
theorem dX1_beginMoves_11 : decode cX1_beginMoves 11 = .ok (.getfield 133, 3) := by decide +kernel
theorem dX1_beginMoves_14 : decode cX1_beginMoves 14 = .ok (.iadd, 1) := by decide +kernel
theorem dX1_beginMoves_15 : decode cX1_beginMoves 15 = .ok (.istore_n 1, 1) := by decide +kernel
theorem dX1_beginMoves_16 : decode cX1_beginMoves 16 = .ok (.aload_n 0, 1) := by decide +kernel
theorem dX1_beginMoves_17 : decode cX1_beginMoves 17 = .ok (.aload_n 0, 1) := by decide +kernel
theorem dX1_beginMoves_18 : decode cX1_beginMoves 18 = .ok (.iload_n 1, 1) := by decide +kernel
theorem dX1_beginMoves_19 : decode cX1_beginMoves 19 = .ok (.invokevirtual 145, 3) := by decide +kernel
theorem dX1_beginMoves_22 : decode cX1_beginMoves 22 = .ok (.putfield 47, 3) := by decide +kernel
theorem dX1_beginMoves_25 : decode cX1_beginMoves 25 = .ok (.aload_n 0, 1) := by decide +kernel
theorem dX1_beginMoves_26 : decode cX1_beginMoves 26 = .ok (.iload_n 1, 1) := by decide +kernel
theorem dX1_beginMoves_27 : decode cX1_beginMoves 27 = .ok (.invokestatic 149, 3) := by decide +kernel
theorem dX1_beginMoves_30 : decode cX1_beginMoves 30 = .ok (.putfield 9, 3) := by decide +kernel
theorem dX1_beginMoves_33 : decode cX1_beginMoves 33 = .ok (.aload_n 0, 1) := by decide +kernel
theorem dX1_beginMoves_34 : decode cX1_beginMoves 34 = .ok (.getfield 18, 3) := by decide +kernel
theorem dX1_beginMoves_37 : decode cX1_beginMoves 37 = .ok (.invokevirtual 152, 3) := by decide +kernel
theorem dX1_beginMoves_40 : decode cX1_beginMoves 40 = .ok (.aload_n 0, 1) := by decide +kernel
theorem dX1_beginMoves_41 : decode cX1_beginMoves 41 = .ok (.getfield 22, 3) := by decide +kernel
theorem dX1_beginMoves_44 : decode cX1_beginMoves 44 = .ok (.invokevirtual 152, 3) := by decide +kernel
theorem dX1_beginMoves_47 : decode cX1_beginMoves 47 = .ok (.aload_n 0, 1) := by decide +kernel
theorem dX1_beginMoves_48 : decode cX1_beginMoves 48 = .ok (.iconst 1, 1) := by decide +kernel
theorem dX1_beginMoves_49 : decode cX1_beginMoves 49 = .ok (.putfield 43, 3) := by decide +kernel
theorem dX1_beginMoves_52 : decode cX1_beginMoves 52 = .ok (.return_, 1) := by decide +kernel
theorem dX1_directionBy_0 : decode cX1_directionBy 0 = .ok (.aload_n 0, 1) := by decide +kernel
theorem dX1_directionBy_1 : decode cX1_directionBy 1 = .ok (.getfield 47, 3) := by decide +kernel
theorem dX1_directionBy_4 : decode cX1_directionBy 4 = .ok (.iload_n 1, 1) := by decide +kernel
theorem dX1_directionBy_5 : decode cX1_directionBy 5 = .ok (.iadd, 1) := by decide +kernel
theorem dX1_directionBy_6 : decode cX1_directionBy 6 = .ok (.bipush 6, 2) := by decide +kernel
theorem dX1_directionBy_8 : decode cX1_directionBy 8 = .ok (.irem, 1) := by decide +kernel
theorem dX1_directionBy_9 : decode cX1_directionBy 9 = .ok (.ireturn, 1) := by decide +kernel
theorem dX1_strengthBy_0 : decode cX1_strengthBy 0 = .ok (.iload_n 0, 1) := by decide +kernel
theorem dX1_strengthBy_1 : decode cX1_strengthBy 1 = .ok (.iconst 3, 1) := by decide +kernel
theorem dX1_strengthBy_2 : decode cX1_strengthBy 2 = .ok (.irem, 1) := by decide +kernel
theorem dX1_strengthBy_3 : decode cX1_strengthBy 3 = .ok (.iconst 1, 1) := by decide +kernel
theorem dX1_strengthBy_4 : decode cX1_strengthBy 4 = .ok (.iadd, 1) := by decide +kernel
theorem dX1_strengthBy_5 : decode cX1_strengthBy 5 = .ok (.ireturn, 1) := by decide +kernel
theorem dX1_toldSet_0 : decode cX1_toldSet 0 = .ok (.aload_n 0, 1) := by decide +kernel
theorem dX1_toldSet_1 : decode cX1_toldSet 1 = .ok (.getfield 43, 3) := by decide +kernel
theorem dX1_toldSet_4 : decode cX1_toldSet 4 = .ok (.ifCond .eq 5, 3) := by decide +kernel
theorem dX1_toldSet_7 : decode cX1_toldSet 7 = .ok (.iconst 3, 1) := by decide +kernel
theorem dX1_toldSet_8 : decode cX1_toldSet 8 = .ok (.ireturn, 1) := by decide +kernel
theorem dX1_toldSet_9 : decode cX1_toldSet 9 = .ok (.aload_n 0, 1) := by decide +kernel
theorem dX1_toldSet_10 : decode cX1_toldSet 10 = .ok (.getfield 18, 3) := by decide +kernel
theorem dX1_toldSet_13 : decode cX1_toldSet 13 = .ok (.getfield 133, 3) := by decide +kernel
theorem dX1_toldSet_16 : decode cX1_toldSet 16 = .ok (.bipush (-9), 2) := by decide +kernel
theorem dX1_toldSet_18 : decode cX1_toldSet 18 = .ok (.if_icmp .ne 7, 3) := by decide +kernel
theorem dX1_toldSet_21 : decode cX1_toldSet 21 = .ok (.iconst 0, 1) := by decide +kernel
theorem dX1_toldSet_22 : decode cX1_toldSet 22 = .ok (.goto 4, 3) := by decide +kernel
theorem dX1_toldSet_25 : decode cX1_toldSet 25 = .ok (.iconst 1, 1) := by decide +kernel
theorem dX1_toldSet_26 : decode cX1_toldSet 26 = .ok (.aload_n 0, 1) := by decide +kernel
theorem dX1_toldSet_27 : decode cX1_toldSet 27 = .ok (.getfield 22, 3) := by decide +kernel
theorem dX1_toldSet_30 : decode cX1_toldSet 30 = .ok (.getfield 133, 3) := by decide +kernel
theorem dX1_toldSet_33 : decode cX1_toldSet 33 = .ok (.bipush (-9), 2) := by decide +kernel
theorem dX1_toldSet_35 : decode cX1_toldSet 35 = .ok (.if_icmp .ne 7, 3) := by decide +kernel
theorem dX1_toldSet_38 : decode cX1_toldSet 38 = .ok (.iconst 0, 1) := by decide +kernel
theorem dX1_toldSet_39 : decode cX1_toldSet 39 = .ok (.goto 4, 3) := by decide +kernel
theorem dX1_toldSet_42 : decode cX1_toldSet 42 = .ok (.iconst 2, 1) := by decide +kernel
theorem dX1_toldSet_43 : decode cX1_toldSet 43 = .ok (.iadd, 1) := by decide +kernel
theorem dX1_toldSet_44 : decode cX1_toldSet 44 = .ok (.ireturn, 1) := by decide +kernel
theorem dX1_stepsNow_0 : decode cX1_stepsNow 0 = .ok (.aload_n 1, 1) := by decide +kernel
theorem dX1_stepsNow_1 : decode cX1_stepsNow 1 = .ok (.aload_n 0, 1) := by decide +kernel
theorem dX1_stepsNow_2 : decode cX1_stepsNow 2 = .ok (.getfield 47, 3) := by decide +kernel
theorem dX1_stepsNow_5 : decode cX1_stepsNow 5 = .ok (.aload_n 0, 1) := by decide +kernel
theorem dX1_stepsNow_6 : decode cX1_stepsNow 6 = .ok (.getfield 9, 3) := by decide +kernel
theorem dX1_stepsNow_9 : decode cX1_stepsNow 9 = .ok (.invokevirtual 155, 3) := by decide +kernel
theorem dX1_stepsNow_12 : decode cX1_stepsNow 12 = .ok (.ireturn, 1) := by decide +kernel
theorem dX1_sailAlong_0 : decode cX1_sailAlong 0 = .ok (.aload_n 0, 1) := by decide +kernel
theorem dX1_sailAlong_1 : decode cX1_sailAlong 1 = .ok (.iload_n 1, 1) := by decide +kernel
theorem dX1_sailAlong_2 : decode cX1_sailAlong 2 = .ok (.invokevirtual 158, 3) := by decide +kernel
theorem dX1_sailAlong_5 : decode cX1_sailAlong 5 = .ok (.astore_n 3, 1) := by decide +kernel
theorem dX1_sailAlong_6 : decode cX1_sailAlong 6 = .ok (.aload_n 3, 1) := by decide +kernel
theorem dX1_sailAlong_7 : decode cX1_sailAlong 7 = .ok (.ifnull 10, 3) := by decide +kernel
theorem dX1_sailAlong_10 : decode cX1_sailAlong 10 = .ok (.iload_n 2, 1) := by decide +kernel
theorem dX1_sailAlong_11 : decode cX1_sailAlong 11 = .ok (.invokestatic 161, 3) := by decide +kernel
theorem dX1_sailAlong_14 : decode cX1_sailAlong 14 = .ok (.ifCond .ne 5, 3) := by decide +kernel
theorem dX1_sailAlong_17 : decode cX1_sailAlong 17 = .ok (.iconst (-1), 1) := by decide +kernel
theorem dX1_sailAlong_18 : decode cX1_sailAlong 18 = .ok (.ireturn, 1) := by decide +kernel
theorem dX1_sailAlong_19 : decode cX1_sailAlong 19 = .ok (.aload_n 0, 1) := by decide +kernel
theorem dX1_sailAlong_20 : decode cX1_sailAlong 20 = .ok (.getfield 43, 3) := by decide +kernel
theorem dX1_sailAlong_23 : decode cX1_sailAlong 23 = .ok (.ifCond .eq 30, 3) := by decide +kernel
theorem dX1_sailAlong_26 : decode cX1_sailAlong 26 = .ok (.aload_n 3, 1) := by decide +kernel
theorem dX1_sailAlong_27 : decode cX1_sailAlong 27 = .ok (.invokevirtual 69, 3) := by decide +kernel
theorem dX1_sailAlong_30 : decode cX1_sailAlong 30 = .ok (.ifCond .eq 23, 3) := by decide +kernel
theorem dX1_sailAlong_33 : decode cX1_sailAlong 33 = .ok (.aload_n 3, 1) := by decide +kernel
theorem dX1_sailAlong_34 : decode cX1_sailAlong 34 = .ok (.iconst 1, 1) := by decide +kernel
theorem dX1_sailAlong_35 : decode cX1_sailAlong 35 = .ok (.invokevirtual 166, 3) := by decide +kernel
theorem dX1_sailAlong_38 : decode cX1_sailAlong 38 = .ok (.ifCond .ne 15, 3) := by decide +kernel
theorem dX1_sailAlong_41 : decode cX1_sailAlong 41 = .ok (.iload_n 2, 1) := by decide +kernel
theorem dX1_sailAlong_42 : decode cX1_sailAlong 42 = .ok (.invokestatic 169, 3) := by decide +kernel
theorem dX1_sailAlong_45 : decode cX1_sailAlong 45 = .ok (.aload_n 0, 1) := by decide +kernel
theorem dX1_sailAlong_46 : decode cX1_sailAlong 46 = .ok (.aload_n 3, 1) := by decide +kernel
theorem dX1_sailAlong_47 : decode cX1_sailAlong 47 = .ok (.invokevirtual 172, 3) := by decide +kernel
theorem dX1_sailAlong_50 : decode cX1_sailAlong 50 = .ok (.if_icmp .le 6, 3) := by decide +kernel
theorem dX1_sailAlong_53 : decode cX1_sailAlong 53 = .ok (.bipush (-2), 2) := by decide +kernel
theorem dX1_sailAlong_55 : decode cX1_sailAlong 55 = .ok (.ireturn, 1) := by decide +kernel
theorem dX1_sailAlong_56 : decode cX1_sailAlong 56 = .ok (.aload_n 3, 1) := by decide +kernel
theorem dX1_sailAlong_57 : decode cX1_sailAlong 57 = .ok (.getfield 73, 3) := by decide +kernel
theorem dX1_sailAlong_60 : decode cX1_sailAlong 60 = .ok (.istore 4, 2) := by decide +kernel
theorem dX1_sailAlong_62 : decode cX1_sailAlong 62 = .ok (.aload_n 3, 1) := by decide +kernel
theorem dX1_sailAlong_63 : decode cX1_sailAlong 63 = .ok (.getfield 108, 3) := by decide +kernel
theorem dX1_sailAlong_66 : decode cX1_sailAlong 66 = .ok (.istore 5, 2) := by decide +kernel
theorem dX1_sailAlong_68 : decode cX1_sailAlong 68 = .ok (.iload_n 2, 1) := by decide +kernel
theorem dX1_sailAlong_69 : decode cX1_sailAlong 69 = .ok (.invokestatic 176, 3) := by decide +kernel
theorem dX1_sailAlong_72 : decode cX1_sailAlong 72 = .ok (.istore 6, 2) := by decide +kernel
theorem dX1_sailAlong_74 : decode cX1_sailAlong 74 = .ok (.iload 6, 2) := by decide +kernel
theorem dX1_sailAlong_76 : decode cX1_sailAlong 76 = .ok (.ifCond .le 63, 3) := by decide +kernel
theorem dX1_sailAlong_79 : decode cX1_sailAlong 79 = .ok (.iload_n 2, 1) := by decide +kernel
theorem dX1_sailAlong_80 : decode cX1_sailAlong 80 = .ok (.iload 6, 2) := by decide +kernel
theorem dX1_sailAlong_82 : decode cX1_sailAlong 82 = .ok (.idiv, 1) := by decide +kernel
theorem dX1_sailAlong_83 : decode cX1_sailAlong 83 = .ok (.bipush 10, 2) := by decide +kernel
theorem dX1_sailAlong_85 : decode cX1_sailAlong 85 = .ok (.irem, 1) := by decide +kernel
theorem dX1_sailAlong_86 : decode cX1_sailAlong 86 = .ok (.istore 7, 2) := by decide +kernel
theorem dX1_sailAlong_88 : decode cX1_sailAlong 88 = .ok (.iload 5, 2) := by decide +kernel
theorem dX1_sailAlong_90 : decode cX1_sailAlong 90 = .ok (.iload 7, 2) := by decide +kernel
theorem dX1_sailAlong_92 : decode cX1_sailAlong 92 = .ok (.invokestatic 179, 3) := by decide +kernel
theorem dX1_sailAlong_95 : decode cX1_sailAlong 95 = .ok (.istore 5, 2) := by decide +kernel
theorem dX1_sailAlong_97 : decode cX1_sailAlong 97 = .ok (.iload 7, 2) := by decide +kernel
theorem dX1_sailAlong_99 : decode cX1_sailAlong 99 = .ok (.iconst 1, 1) := by decide +kernel
theorem dX1_sailAlong_100 : decode cX1_sailAlong 100 = .ok (.if_icmp .ne 15, 3) := by decide +kernel
theorem dX1_sailAlong_103 : decode cX1_sailAlong 103 = .ok (.aload_n 0, 1) := by decide +kernel
theorem dX1_sailAlong_104 : decode cX1_sailAlong 104 = .ok (.aload_n 3, 1) := by decide +kernel
theorem dX1_sailAlong_105 : decode cX1_sailAlong 105 = .ok (.iload 4, 2) := by decide +kernel
theorem dX1_sailAlong_107 : decode cX1_sailAlong 107 = .ok (.iload 5, 2) := by decide +kernel
theorem dX1_sailAlong_109 : decode cX1_sailAlong 109 = .ok (.invokevirtual 182, 3) := by decide +kernel
theorem dX1_sailAlong_112 : decode cX1_sailAlong 112 = .ok (.goto 5, 3) := by decide +kernel
theorem dX1_sailAlong_115 : decode cX1_sailAlong 115 = .ok (.iload 4, 2) := by decide +kernel
theorem dX1_sailAlong_117 : decode cX1_sailAlong 117 = .ok (.istore 4, 2) := by decide +kernel
theorem dX1_sailAlong_119 : decode cX1_sailAlong 119 = .ok (.iload 4, 2) := by decide +kernel
theorem dX1_sailAlong_121 : decode cX1_sailAlong 121 = .ok (.bipush (-9), 2) := by decide +kernel
theorem dX1_sailAlong_123 : decode cX1_sailAlong 123 = .ok (.if_icmp .ne 6, 3) := by decide +kernel
theorem dX1_sailAlong_126 : decode cX1_sailAlong 126 = .ok (.bipush (-2), 2) := by decide +kernel
theorem dX1_sailAlong_128 : decode cX1_sailAlong 128 = .ok (.ireturn, 1) := by decide +kernel
theorem dX1_sailAlong_129 : decode cX1_sailAlong 129 = .ok (.iload 6, 2) := by decide +kernel
theorem dX1_sailAlong_131 : decode cX1_sailAlong 131 = .ok (.bipush 10, 2) := by decide +kernel
theorem dX1_sailAlong_133 : decode cX1_sailAlong 133 = .ok (.idiv, 1) := by decide +kernel
theorem dX1_sailAlong_134 : decode cX1_sailAlong 134 = .ok (.istore 6, 2) := by decide +kernel
theorem dX1_sailAlong_136 : decode cX1_sailAlong 136 = .ok (.goto (-62), 3) := by decide +kernel
theorem dX1_sailAlong_139 : decode cX1_sailAlong 139 = .ok (.aload_n 3, 1) := by decide +kernel
theorem dX1_sailAlong_140 : decode cX1_sailAlong 140 = .ok (.iload 4, 2) := by decide +kernel
theorem dX1_sailAlong_142 : decode cX1_sailAlong 142 = .ok (.putfield 73, 3) := by decide +kernel
theorem dX1_sailAlong_145 : decode cX1_sailAlong 145 = .ok (.aload_n 3, 1) := by decide +kernel
theorem dX1_sailAlong_146 : decode cX1_sailAlong 146 = .ok (.iload 5, 2) := by decide +kernel
theorem dX1_sailAlong_148 : decode cX1_sailAlong 148 = .ok (.putfield 108, 3) := by decide +kernel
theorem dX1_sailAlong_151 : decode cX1_sailAlong 151 = .ok (.aload_n 3, 1) := by decide +kernel
theorem dX1_sailAlong_152 : decode cX1_sailAlong 152 = .ok (.dup, 1) := by decide +kernel
theorem dX1_sailAlong_153 : decode cX1_sailAlong 153 = .ok (.getfield 186, 3) := by decide +kernel
theorem dX1_sailAlong_156 : decode cX1_sailAlong 156 = .ok (.iconst 1, 1) := by decide +kernel
theorem dX1_sailAlong_157 : decode cX1_sailAlong 157 = .ok (.ior, 1) := by decide +kernel
theorem dX1_sailAlong_158 : decode cX1_sailAlong 158 = .ok (.putfield 186, 3) := by decide +kernel
theorem dX1_sailAlong_161 : decode cX1_sailAlong 161 = .ok (.iload 4, 2) := by decide +kernel
theorem dX1_sailAlong_163 : decode cX1_sailAlong 163 = .ok (.ireturn, 1) := by decide +kernel
theorem dX1_fireAt_0 : decode cX1_fireAt 0 = .ok (.aload_n 0, 1) := by decide +kernel
theorem dX1_fireAt_1 : decode cX1_fireAt 1 = .ok (.iload_n 1, 1) := by decide +kernel
theorem dX1_fireAt_2 : decode cX1_fireAt 2 = .ok (.invokevirtual 158, 3) := by decide +kernel
theorem dX1_fireAt_5 : decode cX1_fireAt 5 = .ok (.astore 4, 2) := by decide +kernel
theorem dX1_fireAt_7 : decode cX1_fireAt 7 = .ok (.aload_n 0, 1) := by decide +kernel
theorem dX1_fireAt_8 : decode cX1_fireAt 8 = .ok (.iload_n 3, 1) := by decide +kernel
theorem dX1_fireAt_9 : decode cX1_fireAt 9 = .ok (.invokevirtual 158, 3) := by decide +kernel
theorem dX1_fireAt_12 : decode cX1_fireAt 12 = .ok (.astore 5, 2) := by decide +kernel
theorem dX1_fireAt_14 : decode cX1_fireAt 14 = .ok (.aload 4, 2) := by decide +kernel
theorem dX1_fireAt_16 : decode cX1_fireAt 16 = .ok (.ifnull 20, 3) := by decide +kernel
theorem dX1_fireAt_19 : decode cX1_fireAt 19 = .ok (.aload 5, 2) := by decide +kernel
theorem dX1_fireAt_21 : decode cX1_fireAt 21 = .ok (.ifnull 15, 3) := by decide +kernel
theorem dX1_fireAt_24 : decode cX1_fireAt 24 = .ok (.iload_n 1, 1) := by decide +kernel
theorem dX1_fireAt_25 : decode cX1_fireAt 25 = .ok (.iload_n 3, 1) := by decide +kernel
theorem dX1_fireAt_26 : decode cX1_fireAt 26 = .ok (.if_icmp .eq 10, 3) := by decide +kernel
theorem dX1_fireAt_29 : decode cX1_fireAt 29 = .ok (.iload_n 2, 1) := by decide +kernel
theorem dX1_fireAt_30 : decode cX1_fireAt 30 = .ok (.invokestatic 189, 3) := by decide +kernel
theorem dX1_fireAt_33 : decode cX1_fireAt 33 = .ok (.ifCond .ne 5, 3) := by decide +kernel
theorem dX1_fireAt_36 : decode cX1_fireAt 36 = .ok (.iconst (-1), 1) := by decide +kernel
theorem dX1_fireAt_37 : decode cX1_fireAt 37 = .ok (.ireturn, 1) := by decide +kernel
theorem dX1_fireAt_38 : decode cX1_fireAt 38 = .ok (.aload_n 0, 1) := by decide +kernel
theorem dX1_fireAt_39 : decode cX1_fireAt 39 = .ok (.aload 4, 2) := by decide +kernel
theorem dX1_fireAt_41 : decode cX1_fireAt 41 = .ok (.iload_n 2, 1) := by decide +kernel
theorem dX1_fireAt_42 : decode cX1_fireAt 42 = .ok (.aload 5, 2) := by decide +kernel
theorem dX1_fireAt_44 : decode cX1_fireAt 44 = .ok (.invokevirtual 192, 3) := by decide +kernel
theorem dX1_fireAt_47 : decode cX1_fireAt 47 = .ok (.istore 6, 2) := by decide +kernel
theorem dX1_fireAt_49 : decode cX1_fireAt 49 = .ok (.aload_n 0, 1) := by decide +kernel
theorem dX1_fireAt_50 : decode cX1_fireAt 50 = .ok (.getfield 43, 3) := by decide +kernel
theorem dX1_fireAt_53 : decode cX1_fireAt 53 = .ok (.ifCond .eq 29, 3) := by decide +kernel
theorem dX1_fireAt_56 : decode cX1_fireAt 56 = .ok (.aload 4, 2) := by decide +kernel
theorem dX1_fireAt_58 : decode cX1_fireAt 58 = .ok (.invokevirtual 69, 3) := by decide +kernel
theorem dX1_fireAt_61 : decode cX1_fireAt 61 = .ok (.ifCond .eq 21, 3) := by decide +kernel
theorem dX1_fireAt_64 : decode cX1_fireAt 64 = .ok (.aload 4, 2) := by decide +kernel
theorem dX1_fireAt_66 : decode cX1_fireAt 66 = .ok (.iload_n 2, 1) := by decide +kernel
theorem dX1_fireAt_67 : decode cX1_fireAt 67 = .ok (.aload_n 0, 1) := by decide +kernel
theorem dX1_fireAt_68 : decode cX1_fireAt 68 = .ok (.getfield 40, 3) := by decide +kernel
theorem dX1_fireAt_71 : decode cX1_fireAt 71 = .ok (.invokevirtual 196, 3) := by decide +kernel
theorem dX1_fireAt_74 : decode cX1_fireAt 74 = .ok (.ifCond .ne 8, 3) := by decide +kernel
theorem dX1_fireAt_77 : decode cX1_fireAt 77 = .ok (.iload 6, 2) := by decide +kernel
theorem dX1_fireAt_79 : decode cX1_fireAt 79 = .ok (.ifCond .ne 6, 3) := by decide +kernel
theorem dX1_fireAt_82 : decode cX1_fireAt 82 = .ok (.bipush (-2), 2) := by decide +kernel
theorem dX1_fireAt_84 : decode cX1_fireAt 84 = .ok (.ireturn, 1) := by decide +kernel
theorem dX1_fireAt_85 : decode cX1_fireAt 85 = .ok (.aload 4, 2) := by decide +kernel
theorem dX1_fireAt_87 : decode cX1_fireAt 87 = .ok (.iload 6, 2) := by decide +kernel
theorem dX1_fireAt_89 : decode cX1_fireAt 89 = .ok (.invokevirtual 200, 3) := by decide +kernel
theorem dX1_fireAt_92 : decode cX1_fireAt 92 = .ok (.istore 7, 2) := by decide +kernel
theorem dX1_fireAt_94 : decode cX1_fireAt 94 = .ok (.aload 5, 2) := by decide +kernel
theorem dX1_fireAt_96 : decode cX1_fireAt 96 = .ok (.iload 7, 2) := by decide +kernel
theorem dX1_fireAt_98 : decode cX1_fireAt 98 = .ok (.invokevirtual 203, 3) := by decide +kernel
theorem dX1_fireAt_101 : decode cX1_fireAt 101 = .ok (.aload 5, 2) := by decide +kernel
theorem dX1_fireAt_103 : decode cX1_fireAt 103 = .ok (.invokevirtual 69, 3) := by decide +kernel
theorem dX1_fireAt_106 : decode cX1_fireAt 106 = .ok (.ifCond .ne 9, 3) := by decide +kernel
theorem dX1_fireAt_109 : decode cX1_fireAt 109 = .ok (.aload_n 0, 1) := by decide +kernel
theorem dX1_fireAt_110 : decode cX1_fireAt 110 = .ok (.aload 5, 2) := by decide +kernel
theorem dX1_fireAt_112 : decode cX1_fireAt 112 = .ok (.invokevirtual 206, 3) := by decide +kernel
theorem dX1_fireAt_115 : decode cX1_fireAt 115 = .ok (.aload 4, 2) := by decide +kernel
theorem dX1_fireAt_117 : decode cX1_fireAt 117 = .ok (.iload_n 2, 1) := by decide +kernel
theorem dX1_fireAt_118 : decode cX1_fireAt 118 = .ok (.aload_n 0, 1) := by decide +kernel
theorem dX1_fireAt_119 : decode cX1_fireAt 119 = .ok (.getfield 40, 3) := by decide +kernel
theorem dX1_fireAt_122 : decode cX1_fireAt 122 = .ok (.invokevirtual 209, 3) := by decide +kernel
theorem dX1_fireAt_125 : decode cX1_fireAt 125 = .ok (.iload 7, 2) := by decide +kernel
theorem dX1_fireAt_127 : decode cX1_fireAt 127 = .ok (.ireturn, 1) := by decide +kernel
theorem dX1_shotLength_0 : decode cX1_shotLength 0 = .ok (.aload_n 1, 1) := by decide +kernel
theorem dX1_shotLength_1 : decode cX1_shotLength 1 = .ok (.invokevirtual 69, 3) := by decide +kernel
theorem dX1_shotLength_4 : decode cX1_shotLength 4 = .ok (.ifCond .eq 14, 3) := by decide +kernel
theorem dX1_shotLength_7 : decode cX1_shotLength 7 = .ok (.aload_n 1, 1) := by decide +kernel
theorem dX1_shotLength_8 : decode cX1_shotLength 8 = .ok (.getfield 105, 3) := by decide +kernel
theorem dX1_shotLength_11 : decode cX1_shotLength 11 = .ok (.aload_n 3, 1) := by decide +kernel
theorem dX1_shotLength_12 : decode cX1_shotLength 12 = .ok (.getfield 105, 3) := by decide +kernel
theorem dX1_shotLength_15 : decode cX1_shotLength 15 = .ok (.if_icmp .ne 5, 3) := by decide +kernel
theorem dX1_shotLength_18 : decode cX1_shotLength 18 = .ok (.iconst 0, 1) := by decide +kernel
theorem dX1_shotLength_19 : decode cX1_shotLength 19 = .ok (.ireturn, 1) := by decide +kernel
theorem dX1_shotLength_20 : decode cX1_shotLength 20 = .ok (.aload_n 1, 1) := by decide +kernel
theorem dX1_shotLength_21 : decode cX1_shotLength 21 = .ok (.getfield 108, 3) := by decide +kernel
theorem dX1_shotLength_24 : decode cX1_shotLength 24 = .ok (.iload_n 2, 1) := by decide +kernel
theorem dX1_shotLength_25 : decode cX1_shotLength 25 = .ok (.ifCond .ne 7, 3) := by decide +kernel
theorem dX1_shotLength_28 : decode cX1_shotLength 28 = .ok (.iconst 4, 1) := by decide +kernel
theorem dX1_shotLength_29 : decode cX1_shotLength 29 = .ok (.goto 4, 3) := by decide +kernel
theorem dX1_shotLength_32 : decode cX1_shotLength 32 = .ok (.iconst 1, 1) := by decide +kernel
theorem dX1_shotLength_33 : decode cX1_shotLength 33 = .ok (.iadd, 1) := by decide +kernel
theorem dX1_shotLength_34 : decode cX1_shotLength 34 = .ok (.istore 4, 2) := by decide +kernel
theorem dX1_shotLength_36 : decode cX1_shotLength 36 = .ok (.aload_n 0, 1) := by decide +kernel
theorem dX1_shotLength_37 : decode cX1_shotLength 37 = .ok (.aload_n 1, 1) := by decide +kernel
theorem dX1_shotLength_38 : decode cX1_shotLength 38 = .ok (.getfield 73, 3) := by decide +kernel
theorem dX1_shotLength_41 : decode cX1_shotLength 41 = .ok (.iload 4, 2) := by decide +kernel
theorem dX1_shotLength_43 : decode cX1_shotLength 43 = .ok (.bipush 6, 2) := by decide +kernel
theorem dX1_shotLength_45 : decode cX1_shotLength 45 = .ok (.irem, 1) := by decide +kernel
theorem dX1_shotLength_46 : decode cX1_shotLength 46 = .ok (.aload_n 3, 1) := by decide +kernel
theorem dX1_shotLength_47 : decode cX1_shotLength 47 = .ok (.invokevirtual 213, 3) := by decide +kernel
theorem dX1_shotLength_50 : decode cX1_shotLength 50 = .ok (.istore 5, 2) := by decide +kernel
theorem dX1_shotLength_52 : decode cX1_shotLength 52 = .ok (.iload 5, 2) := by decide +kernel
theorem dX1_shotLength_54 : decode cX1_shotLength 54 = .ok (.ifCond .eq 6, 3) := by decide +kernel
theorem dX1_shotLength_57 : decode cX1_shotLength 57 = .ok (.iload 5, 2) := by decide +kernel
theorem dX1_shotLength_59 : decode cX1_shotLength 59 = .ok (.ireturn, 1) := by decide +kernel
theorem dX1_shotLength_60 : decode cX1_shotLength 60 = .ok (.aload_n 0, 1) := by decide +kernel
theorem dX1_shotLength_61 : decode cX1_shotLength 61 = .ok (.aload_n 1, 1) := by decide +kernel
theorem dX1_shotLength_62 : decode cX1_shotLength 62 = .ok (.getfield 73, 3) := by decide +kernel
theorem dX1_shotLength_65 : decode cX1_shotLength 65 = .ok (.iload 4, 2) := by decide +kernel
theorem dX1_shotLength_67 : decode cX1_shotLength 67 = .ok (.iconst 1, 1) := by decide +kernel
theorem dX1_shotLength_68 : decode cX1_shotLength 68 = .ok (.iadd, 1) := by decide +kernel
theorem dX1_shotLength_69 : decode cX1_shotLength 69 = .ok (.bipush 6, 2) := by decide +kernel
theorem dX1_shotLength_71 : decode cX1_shotLength 71 = .ok (.irem, 1) := by decide +kernel
theorem dX1_shotLength_72 : decode cX1_shotLength 72 = .ok (.aload_n 3, 1) := by decide +kernel
theorem dX1_shotLength_73 : decode cX1_shotLength 73 = .ok (.invokevirtual 213, 3) := by decide +kernel
theorem dX1_shotLength_76 : decode cX1_shotLength 76 = .ok (.ireturn, 1) := by decide +kernel
theorem dX1_distanceAlong_0 : decode cX1_distanceAlong 0 = .ok (.iload_n 1, 1) := by decide +kernel
theorem dX1_distanceAlong_1 : decode cX1_distanceAlong 1 = .ok (.istore 4, 2) := by decide +kernel
theorem dX1_distanceAlong_3 : decode cX1_distanceAlong 3 = .ok (.iconst 1, 1) := by decide +kernel
theorem dX1_distanceAlong_4 : decode cX1_distanceAlong 4 = .ok (.istore 5, 2) := by decide +kernel
theorem dX1_distanceAlong_6 : decode cX1_distanceAlong 6 = .ok (.iload 5, 2) := by decide +kernel
theorem dX1_distanceAlong_8 : decode cX1_distanceAlong 8 = .ok (.iconst 3, 1) := by decide +kernel
theorem dX1_distanceAlong_9 : decode cX1_distanceAlong 9 = .ok (.if_icmp .gt 67, 3) := by decide +kernel
theorem dX1_distanceAlong_12 : decode cX1_distanceAlong 12 = .ok (.iload 4, 2) := by decide +kernel
theorem dX1_distanceAlong_14 : decode cX1_distanceAlong 14 = .ok (.iload_n 2, 1) := by decide +kernel
theorem dX1_distanceAlong_15 : decode cX1_distanceAlong 15 = .ok (.invokestatic 87, 3) := by decide +kernel
theorem dX1_distanceAlong_18 : decode cX1_distanceAlong 18 = .ok (.istore 4, 2) := by decide +kernel
theorem dX1_distanceAlong_20 : decode cX1_distanceAlong 20 = .ok (.iload 4, 2) := by decide +kernel
theorem dX1_distanceAlong_22 : decode cX1_distanceAlong 22 = .ok (.bipush (-9), 2) := by decide +kernel
theorem dX1_distanceAlong_24 : decode cX1_distanceAlong 24 = .ok (.if_icmp .eq 12, 3) := by decide +kernel
theorem dX1_distanceAlong_27 : decode cX1_distanceAlong 27 = .ok (.aload_n 0, 1) := by decide +kernel
theorem dX1_distanceAlong_28 : decode cX1_distanceAlong 28 = .ok (.iload 4, 2) := by decide +kernel
theorem dX1_distanceAlong_30 : decode cX1_distanceAlong 30 = .ok (.invokevirtual 80, 3) := by decide +kernel
theorem dX1_distanceAlong_33 : decode cX1_distanceAlong 33 = .ok (.ifCond .eq 5, 3) := by decide +kernel
theorem dX1_distanceAlong_36 : decode cX1_distanceAlong 36 = .ok (.iconst 0, 1) := by decide +kernel
theorem dX1_distanceAlong_37 : decode cX1_distanceAlong 37 = .ok (.ireturn, 1) := by decide +kernel
theorem dX1_distanceAlong_38 : decode cX1_distanceAlong 38 = .ok (.aload_n 0, 1) := by decide +kernel
theorem dX1_distanceAlong_39 : decode cX1_distanceAlong 39 = .ok (.iload 4, 2) := by decide +kernel
theorem dX1_distanceAlong_41 : decode cX1_distanceAlong 41 = .ok (.invokevirtual 83, 3) := by decide +kernel
theorem dX1_distanceAlong_44 : decode cX1_distanceAlong 44 = .ok (.astore 6, 2) := by decide +kernel
theorem dX1_distanceAlong_46 : decode cX1_distanceAlong 46 = .ok (.aload 6, 2) := by decide +kernel
theorem dX1_distanceAlong_48 : decode cX1_distanceAlong 48 = .ok (.ifnull 22, 3) := by decide +kernel
theorem dX1_distanceAlong_51 : decode cX1_distanceAlong 51 = .ok (.aload 6, 2) := by decide +kernel
theorem dX1_distanceAlong_53 : decode cX1_distanceAlong 53 = .ok (.getfield 94, 3) := by decide +kernel
theorem dX1_distanceAlong_56 : decode cX1_distanceAlong 56 = .ok (.aload_n 3, 1) := by decide +kernel
theorem dX1_distanceAlong_57 : decode cX1_distanceAlong 57 = .ok (.getfield 94, 3) := by decide +kernel
theorem dX1_distanceAlong_60 : decode cX1_distanceAlong 60 = .ok (.if_icmp .ne 8, 3) := by decide +kernel
theorem dX1_distanceAlong_63 : decode cX1_distanceAlong 63 = .ok (.iload 5, 2) := by decide +kernel
theorem dX1_distanceAlong_65 : decode cX1_distanceAlong 65 = .ok (.goto 4, 3) := by decide +kernel
theorem dX1_distanceAlong_68 : decode cX1_distanceAlong 68 = .ok (.iconst 0, 1) := by decide +kernel
theorem dX1_distanceAlong_69 : decode cX1_distanceAlong 69 = .ok (.ireturn, 1) := by decide +kernel
theorem dX1_distanceAlong_70 : decode cX1_distanceAlong 70 = .ok (.iinc 5 1, 3) := by decide +kernel
theorem dX1_distanceAlong_73 : decode cX1_distanceAlong 73 = .ok (.goto (-67), 3) := by decide +kernel
theorem dX1_distanceAlong_76 : decode cX1_distanceAlong 76 = .ok (.iconst 0, 1) := by decide +kernel
theorem dX1_distanceAlong_77 : decode cX1_distanceAlong 77 = .ok (.ireturn, 1) := by decide +kernel
theorem dX1_targetSet_0 : decode cX1_targetSet 0 = .ok (.iconst 0, 1) := by decide +kernel
theorem dX1_targetSet_1 : decode cX1_targetSet 1 = .ok (.istore_n 3, 1) := by decide +kernel
theorem dX1_targetSet_2 : decode cX1_targetSet 2 = .ok (.aload_n 0, 1) := by decide +kernel
theorem dX1_targetSet_3 : decode cX1_targetSet 3 = .ok (.getfield 33, 3) := by decide +kernel
theorem dX1_targetSet_6 : decode cX1_targetSet 6 = .ok (.astore 4, 2) := by decide +kernel
theorem dX1_targetSet_8 : decode cX1_targetSet 8 = .ok (.aload 4, 2) := by decide +kernel
theorem dX1_targetSet_10 : decode cX1_targetSet 10 = .ok (.arraylength, 1) := by decide +kernel
theorem dX1_targetSet_11 : decode cX1_targetSet 11 = .ok (.istore 5, 2) := by decide +kernel
theorem dX1_targetSet_13 : decode cX1_targetSet 13 = .ok (.iconst 0, 1) := by decide +kernel
theorem dX1_targetSet_14 : decode cX1_targetSet 14 = .ok (.istore 6, 2) := by decide +kernel
theorem dX1_targetSet_16 : decode cX1_targetSet 16 = .ok (.iload 6, 2) := by decide +kernel
theorem dX1_targetSet_18 : decode cX1_targetSet 18 = .ok (.iload 5, 2) := by decide +kernel
theorem dX1_targetSet_20 : decode cX1_targetSet 20 = .ok (.if_icmp .ge 37, 3) := by decide +kernel
theorem dX1_targetSet_23 : decode cX1_targetSet 23 = .ok (.aload 4, 2) := by decide +kernel
theorem dX1_targetSet_25 : decode cX1_targetSet 25 = .ok (.iload 6, 2) := by decide +kernel
theorem dX1_targetSet_27 : decode cX1_targetSet 27 = .ok (.aaload, 1) := by decide +kernel
theorem dX1_targetSet_28 : decode cX1_targetSet 28 = .ok (.astore 7, 2) := by decide +kernel
theorem dX1_targetSet_30 : decode cX1_targetSet 30 = .ok (.aload_n 0, 1) := by decide +kernel
theorem dX1_targetSet_31 : decode cX1_targetSet 31 = .ok (.aload_n 1, 1) := by decide +kernel
theorem dX1_targetSet_32 : decode cX1_targetSet 32 = .ok (.iload_n 2, 1) := by decide +kernel
theorem dX1_targetSet_33 : decode cX1_targetSet 33 = .ok (.aload 7, 2) := by decide +kernel
theorem dX1_targetSet_35 : decode cX1_targetSet 35 = .ok (.invokevirtual 192, 3) := by decide +kernel
theorem dX1_targetSet_38 : decode cX1_targetSet 38 = .ok (.ifCond .eq 13, 3) := by decide +kernel
theorem dX1_targetSet_41 : decode cX1_targetSet 41 = .ok (.iload_n 3, 1) := by decide +kernel
theorem dX1_targetSet_42 : decode cX1_targetSet 42 = .ok (.iconst 1, 1) := by decide +kernel
theorem dX1_targetSet_43 : decode cX1_targetSet 43 = .ok (.aload 7, 2) := by decide +kernel
theorem dX1_targetSet_45 : decode cX1_targetSet 45 = .ok (.getfield 94, 3) := by decide +kernel
theorem dX1_targetSet_48 : decode cX1_targetSet 48 = .ok (.ishl, 1) := by decide +kernel
theorem dX1_targetSet_49 : decode cX1_targetSet 49 = .ok (.ior, 1) := by decide +kernel
theorem dX1_targetSet_50 : decode cX1_targetSet 50 = .ok (.istore_n 3, 1) := by decide +kernel
theorem dX1_targetSet_51 : decode cX1_targetSet 51 = .ok (.iinc 6 1, 3) := by decide +kernel
theorem dX1_targetSet_54 : decode cX1_targetSet 54 = .ok (.goto (-38), 3) := by decide +kernel
theorem dX1_targetSet_57 : decode cX1_targetSet 57 = .ok (.iload_n 3, 1) := by decide +kernel
theorem dX1_targetSet_58 : decode cX1_targetSet 58 = .ok (.ireturn, 1) := by decide +kernel
theorem dX1_threatSet_0 : decode cX1_threatSet 0 = .ok (.iconst 0, 1) := by decide +kernel
theorem dX1_threatSet_1 : decode cX1_threatSet 1 = .ok (.istore_n 2, 1) := by decide +kernel
theorem dX1_threatSet_2 : decode cX1_threatSet 2 = .ok (.aload_n 0, 1) := by decide +kernel
theorem dX1_threatSet_3 : decode cX1_threatSet 3 = .ok (.getfield 33, 3) := by decide +kernel
theorem dX1_threatSet_6 : decode cX1_threatSet 6 = .ok (.astore_n 3, 1) := by decide +kernel
theorem dX1_threatSet_7 : decode cX1_threatSet 7 = .ok (.aload_n 3, 1) := by decide +kernel
theorem dX1_threatSet_8 : decode cX1_threatSet 8 = .ok (.arraylength, 1) := by decide +kernel
theorem dX1_threatSet_9 : decode cX1_threatSet 9 = .ok (.istore 4, 2) := by decide +kernel
theorem dX1_threatSet_11 : decode cX1_threatSet 11 = .ok (.iconst 0, 1) := by decide +kernel
theorem dX1_threatSet_12 : decode cX1_threatSet 12 = .ok (.istore 5, 2) := by decide +kernel
theorem dX1_threatSet_14 : decode cX1_threatSet 14 = .ok (.iload 5, 2) := by decide +kernel
theorem dX1_threatSet_16 : decode cX1_threatSet 16 = .ok (.iload 4, 2) := by decide +kernel
theorem dX1_threatSet_18 : decode cX1_threatSet 18 = .ok (.if_icmp .ge 47, 3) := by decide +kernel
theorem dX1_threatSet_21 : decode cX1_threatSet 21 = .ok (.aload_n 3, 1) := by decide +kernel
theorem dX1_threatSet_22 : decode cX1_threatSet 22 = .ok (.iload 5, 2) := by decide +kernel
theorem dX1_threatSet_24 : decode cX1_threatSet 24 = .ok (.aaload, 1) := by decide +kernel
theorem dX1_threatSet_25 : decode cX1_threatSet 25 = .ok (.astore 6, 2) := by decide +kernel
theorem dX1_threatSet_27 : decode cX1_threatSet 27 = .ok (.aload_n 0, 1) := by decide +kernel
theorem dX1_threatSet_28 : decode cX1_threatSet 28 = .ok (.aload 6, 2) := by decide +kernel
theorem dX1_threatSet_30 : decode cX1_threatSet 30 = .ok (.iconst 0, 1) := by decide +kernel
theorem dX1_threatSet_31 : decode cX1_threatSet 31 = .ok (.aload_n 1, 1) := by decide +kernel
theorem dX1_threatSet_32 : decode cX1_threatSet 32 = .ok (.invokevirtual 192, 3) := by decide +kernel
theorem dX1_threatSet_35 : decode cX1_threatSet 35 = .ok (.ifCond .ne 14, 3) := by decide +kernel
theorem dX1_threatSet_38 : decode cX1_threatSet 38 = .ok (.aload_n 0, 1) := by decide +kernel
theorem dX1_threatSet_39 : decode cX1_threatSet 39 = .ok (.aload 6, 2) := by decide +kernel
theorem dX1_threatSet_41 : decode cX1_threatSet 41 = .ok (.iconst 1, 1) := by decide +kernel
theorem dX1_threatSet_42 : decode cX1_threatSet 42 = .ok (.aload_n 1, 1) := by decide +kernel
theorem dX1_threatSet_43 : decode cX1_threatSet 43 = .ok (.invokevirtual 192, 3) := by decide +kernel
theorem dX1_threatSet_46 : decode cX1_threatSet 46 = .ok (.ifCond .eq 13, 3) := by decide +kernel
theorem dX1_threatSet_49 : decode cX1_threatSet 49 = .ok (.iload_n 2, 1) := by decide +kernel
theorem dX1_threatSet_50 : decode cX1_threatSet 50 = .ok (.iconst 1, 1) := by decide +kernel
theorem dX1_threatSet_51 : decode cX1_threatSet 51 = .ok (.aload 6, 2) := by decide +kernel
theorem dX1_threatSet_53 : decode cX1_threatSet 53 = .ok (.getfield 94, 3) := by decide +kernel
theorem dX1_threatSet_56 : decode cX1_threatSet 56 = .ok (.ishl, 1) := by decide +kernel
theorem dX1_threatSet_57 : decode cX1_threatSet 57 = .ok (.ior, 1) := by decide +kernel
theorem dX1_threatSet_58 : decode cX1_threatSet 58 = .ok (.istore_n 2, 1) := by decide +kernel
theorem dX1_threatSet_59 : decode cX1_threatSet 59 = .ok (.iinc 5 1, 3) := by decide +kernel
theorem dX1_threatSet_62 : decode cX1_threatSet 62 = .ok (.goto (-48), 3) := by decide +kernel
theorem dX1_threatSet_65 : decode cX1_threatSet 65 = .ok (.iload_n 2, 1) := by decide +kernel
theorem dX1_threatSet_66 : decode cX1_threatSet 66 = .ok (.ireturn, 1) := by decide +kernel
theorem dX1_grappleTwo_0 : decode cX1_grappleTwo 0 = .ok (.aload_n 0, 1) := by decide +kernel
theorem dX1_grappleTwo_1 : decode cX1_grappleTwo 1 = .ok (.iload_n 1, 1) := by decide +kernel
theorem dX1_grappleTwo_2 : decode cX1_grappleTwo 2 = .ok (.invokevirtual 158, 3) := by decide +kernel
theorem dX1_grappleTwo_5 : decode cX1_grappleTwo 5 = .ok (.astore_n 3, 1) := by decide +kernel
theorem dX1_grappleTwo_6 : decode cX1_grappleTwo 6 = .ok (.aload_n 0, 1) := by decide +kernel
theorem dX1_grappleTwo_7 : decode cX1_grappleTwo 7 = .ok (.iload_n 2, 1) := by decide +kernel
theorem dX1_grappleTwo_8 : decode cX1_grappleTwo 8 = .ok (.invokevirtual 158, 3) := by decide +kernel
theorem dX1_grappleTwo_11 : decode cX1_grappleTwo 11 = .ok (.astore 4, 2) := by decide +kernel
theorem dX1_grappleTwo_13 : decode cX1_grappleTwo 13 = .ok (.aload_n 3, 1) := by decide +kernel
theorem dX1_grappleTwo_14 : decode cX1_grappleTwo 14 = .ok (.ifnull 13, 3) := by decide +kernel
theorem dX1_grappleTwo_17 : decode cX1_grappleTwo 17 = .ok (.aload 4, 2) := by decide +kernel
theorem dX1_grappleTwo_19 : decode cX1_grappleTwo 19 = .ok (.ifnull 8, 3) := by decide +kernel
theorem dX1_grappleTwo_22 : decode cX1_grappleTwo 22 = .ok (.iload_n 1, 1) := by decide +kernel
theorem dX1_grappleTwo_23 : decode cX1_grappleTwo 23 = .ok (.iload_n 2, 1) := by decide +kernel
theorem dX1_grappleTwo_24 : decode cX1_grappleTwo 24 = .ok (.if_icmp .ne 5, 3) := by decide +kernel
theorem dX1_grappleTwo_27 : decode cX1_grappleTwo 27 = .ok (.iconst (-1), 1) := by decide +kernel
theorem dX1_grappleTwo_28 : decode cX1_grappleTwo 28 = .ok (.ireturn, 1) := by decide +kernel
theorem dX1_grappleTwo_29 : decode cX1_grappleTwo 29 = .ok (.aload_n 3, 1) := by decide +kernel
theorem dX1_grappleTwo_30 : decode cX1_grappleTwo 30 = .ok (.invokevirtual 69, 3) := by decide +kernel
theorem dX1_grappleTwo_33 : decode cX1_grappleTwo 33 = .ok (.ifCond .eq 30, 3) := by decide +kernel
theorem dX1_grappleTwo_36 : decode cX1_grappleTwo 36 = .ok (.aload 4, 2) := by decide +kernel
theorem dX1_grappleTwo_38 : decode cX1_grappleTwo 38 = .ok (.invokevirtual 69, 3) := by decide +kernel
theorem dX1_grappleTwo_41 : decode cX1_grappleTwo 41 = .ok (.ifCond .eq 22, 3) := by decide +kernel
theorem dX1_grappleTwo_44 : decode cX1_grappleTwo 44 = .ok (.aload_n 3, 1) := by decide +kernel
theorem dX1_grappleTwo_45 : decode cX1_grappleTwo 45 = .ok (.invokevirtual 217, 3) := by decide +kernel
theorem dX1_grappleTwo_48 : decode cX1_grappleTwo 48 = .ok (.ifCond .ne 15, 3) := by decide +kernel
theorem dX1_grappleTwo_51 : decode cX1_grappleTwo 51 = .ok (.aload 4, 2) := by decide +kernel
theorem dX1_grappleTwo_53 : decode cX1_grappleTwo 53 = .ok (.invokevirtual 217, 3) := by decide +kernel
theorem dX1_grappleTwo_56 : decode cX1_grappleTwo 56 = .ok (.ifCond .ne 7, 3) := by decide +kernel
theorem dX1_grappleTwo_59 : decode cX1_grappleTwo 59 = .ok (.iconst 1, 1) := by decide +kernel
theorem dX1_grappleTwo_60 : decode cX1_grappleTwo 60 = .ok (.goto 4, 3) := by decide +kernel
theorem dX1_grappleTwo_63 : decode cX1_grappleTwo 63 = .ok (.iconst 0, 1) := by decide +kernel
theorem dX1_grappleTwo_64 : decode cX1_grappleTwo 64 = .ok (.istore 5, 2) := by decide +kernel
theorem dX1_grappleTwo_66 : decode cX1_grappleTwo 66 = .ok (.aload_n 0, 1) := by decide +kernel
theorem dX1_grappleTwo_67 : decode cX1_grappleTwo 67 = .ok (.getfield 43, 3) := by decide +kernel
theorem dX1_grappleTwo_70 : decode cX1_grappleTwo 70 = .ok (.ifCond .eq 49, 3) := by decide +kernel
theorem dX1_grappleTwo_73 : decode cX1_grappleTwo 73 = .ok (.iload 5, 2) := by decide +kernel
theorem dX1_grappleTwo_75 : decode cX1_grappleTwo 75 = .ok (.ifCond .eq 44, 3) := by decide +kernel
theorem dX1_grappleTwo_78 : decode cX1_grappleTwo 78 = .ok (.aload_n 3, 1) := by decide +kernel
theorem dX1_grappleTwo_79 : decode cX1_grappleTwo 79 = .ok (.getfield 105, 3) := by decide +kernel
theorem dX1_grappleTwo_82 : decode cX1_grappleTwo 82 = .ok (.aload 4, 2) := by decide +kernel
theorem dX1_grappleTwo_84 : decode cX1_grappleTwo 84 = .ok (.getfield 105, 3) := by decide +kernel
theorem dX1_grappleTwo_87 : decode cX1_grappleTwo 87 = .ok (.if_icmp .eq 32, 3) := by decide +kernel
theorem dX1_grappleTwo_90 : decode cX1_grappleTwo 90 = .ok (.aload_n 3, 1) := by decide +kernel
theorem dX1_grappleTwo_91 : decode cX1_grappleTwo 91 = .ok (.getfield 73, 3) := by decide +kernel
theorem dX1_grappleTwo_94 : decode cX1_grappleTwo 94 = .ok (.aload 4, 2) := by decide +kernel
theorem dX1_grappleTwo_96 : decode cX1_grappleTwo 96 = .ok (.getfield 73, 3) := by decide +kernel
theorem dX1_grappleTwo_99 : decode cX1_grappleTwo 99 = .ok (.invokestatic 220, 3) := by decide +kernel
theorem dX1_grappleTwo_102 : decode cX1_grappleTwo 102 = .ok (.ifCond .eq 17, 3) := by decide +kernel
theorem dX1_grappleTwo_105 : decode cX1_grappleTwo 105 = .ok (.iconst 2, 1) := by decide +kernel
theorem dX1_grappleTwo_106 : decode cX1_grappleTwo 106 = .ok (.aload_n 3, 1) := by decide +kernel
theorem dX1_grappleTwo_107 : decode cX1_grappleTwo 107 = .ok (.getfield 117, 3) := by decide +kernel
theorem dX1_grappleTwo_110 : decode cX1_grappleTwo 110 = .ok (.imul, 1) := by decide +kernel
theorem dX1_grappleTwo_111 : decode cX1_grappleTwo 111 = .ok (.aload 4, 2) := by decide +kernel
theorem dX1_grappleTwo_113 : decode cX1_grappleTwo 113 = .ok (.getfield 117, 3) := by decide +kernel
theorem dX1_grappleTwo_116 : decode cX1_grappleTwo 116 = .ok (.if_icmp .ge 6, 3) := by decide +kernel
theorem dX1_grappleTwo_119 : decode cX1_grappleTwo 119 = .ok (.bipush (-2), 2) := by decide +kernel
theorem dX1_grappleTwo_121 : decode cX1_grappleTwo 121 = .ok (.ireturn, 1) := by decide +kernel
theorem dX1_grappleTwo_122 : decode cX1_grappleTwo 122 = .ok (.aload_n 3, 1) := by decide +kernel
theorem dX1_grappleTwo_123 : decode cX1_grappleTwo 123 = .ok (.aload 4, 2) := by decide +kernel
theorem dX1_grappleTwo_125 : decode cX1_grappleTwo 125 = .ok (.getfield 94, 3) := by decide +kernel
theorem dX1_grappleTwo_128 : decode cX1_grappleTwo 128 = .ok (.putfield 223, 3) := by decide +kernel
theorem dX1_grappleTwo_131 : decode cX1_grappleTwo 131 = .ok (.aload 4, 2) := by decide +kernel
theorem dX1_grappleTwo_133 : decode cX1_grappleTwo 133 = .ok (.aload_n 3, 1) := by decide +kernel
theorem dX1_grappleTwo_134 : decode cX1_grappleTwo 134 = .ok (.getfield 94, 3) := by decide +kernel
theorem dX1_grappleTwo_137 : decode cX1_grappleTwo 137 = .ok (.putfield 223, 3) := by decide +kernel
theorem dX1_grappleTwo_140 : decode cX1_grappleTwo 140 = .ok (.aload_n 3, 1) := by decide +kernel
theorem dX1_grappleTwo_141 : decode cX1_grappleTwo 141 = .ok (.getfield 117, 3) := by decide +kernel
theorem dX1_grappleTwo_144 : decode cX1_grappleTwo 144 = .ok (.aload 4, 2) := by decide +kernel
theorem dX1_grappleTwo_146 : decode cX1_grappleTwo 146 = .ok (.getfield 117, 3) := by decide +kernel
theorem dX1_grappleTwo_149 : decode cX1_grappleTwo 149 = .ok (.iadd, 1) := by decide +kernel
theorem dX1_grappleTwo_150 : decode cX1_grappleTwo 150 = .ok (.ireturn, 1) := by decide +kernel
theorem dX1_cutLoose_0 : decode cX1_cutLoose 0 = .ok (.aload_n 0, 1) := by decide +kernel
theorem dX1_cutLoose_1 : decode cX1_cutLoose 1 = .ok (.iload_n 1, 1) := by decide +kernel
theorem dX1_cutLoose_2 : decode cX1_cutLoose 2 = .ok (.invokevirtual 158, 3) := by decide +kernel
theorem dX1_cutLoose_5 : decode cX1_cutLoose 5 = .ok (.astore_n 2, 1) := by decide +kernel
theorem dX1_cutLoose_6 : decode cX1_cutLoose 6 = .ok (.aload_n 2, 1) := by decide +kernel
theorem dX1_cutLoose_7 : decode cX1_cutLoose 7 = .ok (.ifnonnull 5, 3) := by decide +kernel
theorem dX1_cutLoose_10 : decode cX1_cutLoose 10 = .ok (.iconst (-1), 1) := by decide +kernel
theorem dX1_cutLoose_11 : decode cX1_cutLoose 11 = .ok (.ireturn, 1) := by decide +kernel
theorem dX1_cutLoose_12 : decode cX1_cutLoose 12 = .ok (.aload_n 0, 1) := by decide +kernel
theorem dX1_cutLoose_13 : decode cX1_cutLoose 13 = .ok (.aload_n 2, 1) := by decide +kernel
theorem dX1_cutLoose_14 : decode cX1_cutLoose 14 = .ok (.getfield 223, 3) := by decide +kernel
theorem dX1_cutLoose_17 : decode cX1_cutLoose 17 = .ok (.invokevirtual 158, 3) := by decide +kernel
theorem dX1_cutLoose_20 : decode cX1_cutLoose 20 = .ok (.astore_n 3, 1) := by decide +kernel
theorem dX1_cutLoose_21 : decode cX1_cutLoose 21 = .ok (.aload_n 0, 1) := by decide +kernel
theorem dX1_cutLoose_22 : decode cX1_cutLoose 22 = .ok (.getfield 43, 3) := by decide +kernel
theorem dX1_cutLoose_25 : decode cX1_cutLoose 25 = .ok (.ifCond .eq 18, 3) := by decide +kernel
theorem dX1_cutLoose_28 : decode cX1_cutLoose 28 = .ok (.aload_n 3, 1) := by decide +kernel
theorem dX1_cutLoose_29 : decode cX1_cutLoose 29 = .ok (.ifnull 14, 3) := by decide +kernel
theorem dX1_cutLoose_32 : decode cX1_cutLoose 32 = .ok (.aload_n 2, 1) := by decide +kernel
theorem dX1_cutLoose_33 : decode cX1_cutLoose 33 = .ok (.getfield 117, 3) := by decide +kernel
theorem dX1_cutLoose_36 : decode cX1_cutLoose 36 = .ok (.aload_n 3, 1) := by decide +kernel
theorem dX1_cutLoose_37 : decode cX1_cutLoose 37 = .ok (.getfield 117, 3) := by decide +kernel
theorem dX1_cutLoose_40 : decode cX1_cutLoose 40 = .ok (.if_icmp .ge 6, 3) := by decide +kernel
theorem dX1_cutLoose_43 : decode cX1_cutLoose 43 = .ok (.bipush (-2), 2) := by decide +kernel
theorem dX1_cutLoose_45 : decode cX1_cutLoose 45 = .ok (.ireturn, 1) := by decide +kernel
theorem dX1_cutLoose_46 : decode cX1_cutLoose 46 = .ok (.aload_n 0, 1) := by decide +kernel
theorem dX1_cutLoose_47 : decode cX1_cutLoose 47 = .ok (.aload_n 2, 1) := by decide +kernel
theorem dX1_cutLoose_48 : decode cX1_cutLoose 48 = .ok (.invokevirtual 206, 3) := by decide +kernel
theorem dX1_cutLoose_51 : decode cX1_cutLoose 51 = .ok (.aload_n 3, 1) := by decide +kernel
theorem dX1_cutLoose_52 : decode cX1_cutLoose 52 = .ok (.getfield 94, 3) := by decide +kernel
theorem dX1_cutLoose_55 : decode cX1_cutLoose 55 = .ok (.ireturn, 1) := by decide +kernel
theorem dX1_release_0 : decode cX1_release 0 = .ok (.aload_n 0, 1) := by decide +kernel
theorem dX1_release_1 : decode cX1_release 1 = .ok (.aload_n 1, 1) := by decide +kernel
theorem dX1_release_2 : decode cX1_release 2 = .ok (.getfield 223, 3) := by decide +kernel
theorem dX1_release_5 : decode cX1_release 5 = .ok (.invokevirtual 158, 3) := by decide +kernel
theorem dX1_release_8 : decode cX1_release 8 = .ok (.astore_n 2, 1) := by decide +kernel
theorem dX1_release_9 : decode cX1_release 9 = .ok (.aload_n 2, 1) := by decide +kernel
theorem dX1_release_10 : decode cX1_release 10 = .ok (.ifnull 9, 3) := by decide +kernel
theorem dX1_release_13 : decode cX1_release 13 = .ok (.aload_n 2, 1) := by decide +kernel
theorem dX1_release_14 : decode cX1_release 14 = .ok (.bipush (-9), 2) := by decide +kernel
theorem dX1_release_16 : decode cX1_release 16 = .ok (.putfield 223, 3) := by decide +kernel
theorem dX1_release_19 : decode cX1_release 19 = .ok (.aload_n 1, 1) := by decide +kernel
theorem dX1_release_20 : decode cX1_release 20 = .ok (.bipush (-9), 2) := by decide +kernel
theorem dX1_release_22 : decode cX1_release 22 = .ok (.putfield 223, 3) := by decide +kernel
theorem dX1_release_25 : decode cX1_release 25 = .ok (.return_, 1) := by decide +kernel
theorem dX1_fight_0 : decode cX1_fight 0 = .ok (.aload_n 2, 1) := by decide +kernel
theorem dX1_fight_1 : decode cX1_fight 1 = .ok (.getfield 117, 3) := by decide +kernel
theorem dX1_fight_4 : decode cX1_fight 4 = .ok (.iconst 3, 1) := by decide +kernel
theorem dX1_fight_5 : decode cX1_fight 5 = .ok (.iadd, 1) := by decide +kernel
theorem dX1_fight_6 : decode cX1_fight 6 = .ok (.iconst 4, 1) := by decide +kernel
theorem dX1_fight_7 : decode cX1_fight 7 = .ok (.idiv, 1) := by decide +kernel
theorem dX1_fight_8 : decode cX1_fight 8 = .ok (.istore_n 3, 1) := by decide +kernel
theorem dX1_fight_9 : decode cX1_fight 9 = .ok (.aload_n 1, 1) := by decide +kernel
theorem dX1_fight_10 : decode cX1_fight 10 = .ok (.getfield 117, 3) := by decide +kernel
theorem dX1_fight_13 : decode cX1_fight 13 = .ok (.iconst 3, 1) := by decide +kernel
theorem dX1_fight_14 : decode cX1_fight 14 = .ok (.iadd, 1) := by decide +kernel
theorem dX1_fight_15 : decode cX1_fight 15 = .ok (.iconst 4, 1) := by decide +kernel
theorem dX1_fight_16 : decode cX1_fight 16 = .ok (.idiv, 1) := by decide +kernel
theorem dX1_fight_17 : decode cX1_fight 17 = .ok (.istore 4, 2) := by decide +kernel
theorem dX1_fight_19 : decode cX1_fight 19 = .ok (.aload_n 1, 1) := by decide +kernel
theorem dX1_fight_20 : decode cX1_fight 20 = .ok (.iconst 0, 1) := by decide +kernel
theorem dX1_fight_21 : decode cX1_fight 21 = .ok (.aload_n 1, 1) := by decide +kernel
theorem dX1_fight_22 : decode cX1_fight 22 = .ok (.getfield 117, 3) := by decide +kernel
theorem dX1_fight_25 : decode cX1_fight 25 = .ok (.iload_n 3, 1) := by decide +kernel
theorem dX1_fight_26 : decode cX1_fight 26 = .ok (.isub, 1) := by decide +kernel
theorem dX1_fight_27 : decode cX1_fight 27 = .ok (.invokestatic 226, 3) := by decide +kernel
theorem dX1_fight_30 : decode cX1_fight 30 = .ok (.putfield 117, 3) := by decide +kernel
theorem dX1_fight_33 : decode cX1_fight 33 = .ok (.aload_n 2, 1) := by decide +kernel
theorem dX1_fight_34 : decode cX1_fight 34 = .ok (.iconst 0, 1) := by decide +kernel
theorem dX1_fight_35 : decode cX1_fight 35 = .ok (.aload_n 2, 1) := by decide +kernel
theorem dX1_fight_36 : decode cX1_fight 36 = .ok (.getfield 117, 3) := by decide +kernel
theorem dX1_fight_39 : decode cX1_fight 39 = .ok (.iload 4, 2) := by decide +kernel
theorem dX1_fight_41 : decode cX1_fight 41 = .ok (.isub, 1) := by decide +kernel
theorem dX1_fight_42 : decode cX1_fight 42 = .ok (.invokestatic 226, 3) := by decide +kernel
theorem dX1_fight_45 : decode cX1_fight 45 = .ok (.putfield 117, 3) := by decide +kernel
theorem dX1_fight_48 : decode cX1_fight 48 = .ok (.aload_n 1, 1) := by decide +kernel
theorem dX1_fight_49 : decode cX1_fight 49 = .ok (.getfield 117, 3) := by decide +kernel
theorem dX1_fight_52 : decode cX1_fight 52 = .ok (.ifCond .le 11, 3) := by decide +kernel
theorem dX1_fight_55 : decode cX1_fight 55 = .ok (.aload_n 2, 1) := by decide +kernel
theorem dX1_fight_56 : decode cX1_fight 56 = .ok (.getfield 117, 3) := by decide +kernel
theorem dX1_fight_59 : decode cX1_fight 59 = .ok (.ifCond .le 4, 3) := by decide +kernel
theorem dX1_fight_62 : decode cX1_fight 62 = .ok (.return_, 1) := by decide +kernel
theorem dX1_fight_63 : decode cX1_fight 63 = .ok (.aload_n 1, 1) := by decide +kernel
theorem dX1_fight_64 : decode cX1_fight 64 = .ok (.getfield 117, 3) := by decide +kernel
theorem dX1_fight_67 : decode cX1_fight 67 = .ok (.ifCond .le 12, 3) := by decide +kernel
theorem dX1_fight_70 : decode cX1_fight 70 = .ok (.aload_n 0, 1) := by decide +kernel
theorem dX1_fight_71 : decode cX1_fight 71 = .ok (.aload_n 1, 1) := by decide +kernel
theorem dX1_fight_72 : decode cX1_fight 72 = .ok (.aload_n 2, 1) := by decide +kernel
theorem dX1_fight_73 : decode cX1_fight 73 = .ok (.invokevirtual 231, 3) := by decide +kernel
theorem dX1_fight_76 : decode cX1_fight 76 = .ok (.goto 16, 3) := by decide +kernel
theorem dX1_fight_79 : decode cX1_fight 79 = .ok (.aload_n 2, 1) := by decide +kernel
theorem dX1_fight_80 : decode cX1_fight 80 = .ok (.getfield 117, 3) := by decide +kernel
theorem dX1_fight_83 : decode cX1_fight 83 = .ok (.ifCond .le 9, 3) := by decide +kernel
theorem dX1_fight_86 : decode cX1_fight 86 = .ok (.aload_n 0, 1) := by decide +kernel
theorem dX1_fight_87 : decode cX1_fight 87 = .ok (.aload_n 2, 1) := by decide +kernel
theorem dX1_fight_88 : decode cX1_fight 88 = .ok (.aload_n 1, 1) := by decide +kernel
theorem dX1_fight_89 : decode cX1_fight 89 = .ok (.invokevirtual 231, 3) := by decide +kernel
theorem dX1_fight_92 : decode cX1_fight 92 = .ok (.aload_n 0, 1) := by decide +kernel
theorem dX1_fight_93 : decode cX1_fight 93 = .ok (.aload_n 1, 1) := by decide +kernel
theorem dX1_fight_94 : decode cX1_fight 94 = .ok (.invokevirtual 206, 3) := by decide +kernel
theorem dX1_fight_97 : decode cX1_fight 97 = .ok (.return_, 1) := by decide +kernel
theorem dX1_capture_0 : decode cX1_capture 0 = .ok (.aload_n 1, 1) := by decide +kernel
theorem dX1_capture_1 : decode cX1_capture 1 = .ok (.getfield 117, 3) := by decide +kernel
theorem dX1_capture_4 : decode cX1_capture 4 = .ok (.iconst 2, 1) := by decide +kernel
theorem dX1_capture_5 : decode cX1_capture 5 = .ok (.idiv, 1) := by decide +kernel
theorem dX1_capture_6 : decode cX1_capture 6 = .ok (.istore_n 3, 1) := by decide +kernel
theorem dX1_capture_7 : decode cX1_capture 7 = .ok (.aload_n 1, 1) := by decide +kernel
theorem dX1_capture_8 : decode cX1_capture 8 = .ok (.dup, 1) := by decide +kernel
theorem dX1_capture_9 : decode cX1_capture 9 = .ok (.getfield 117, 3) := by decide +kernel
theorem dX1_capture_12 : decode cX1_capture 12 = .ok (.iload_n 3, 1) := by decide +kernel
theorem dX1_capture_13 : decode cX1_capture 13 = .ok (.isub, 1) := by decide +kernel
theorem dX1_capture_14 : decode cX1_capture 14 = .ok (.putfield 117, 3) := by decide +kernel
theorem dX1_capture_17 : decode cX1_capture 17 = .ok (.aload_n 2, 1) := by decide +kernel
theorem dX1_capture_18 : decode cX1_capture 18 = .ok (.dup, 1) := by decide +kernel
theorem dX1_capture_19 : decode cX1_capture 19 = .ok (.getfield 117, 3) := by decide +kernel
theorem dX1_capture_22 : decode cX1_capture 22 = .ok (.iload_n 3, 1) := by decide +kernel
theorem dX1_capture_23 : decode cX1_capture 23 = .ok (.iadd, 1) := by decide +kernel
theorem dX1_capture_24 : decode cX1_capture 24 = .ok (.putfield 117, 3) := by decide +kernel
theorem dX1_capture_27 : decode cX1_capture 27 = .ok (.aload_n 2, 1) := by decide +kernel
theorem dX1_capture_28 : decode cX1_capture 28 = .ok (.aload_n 1, 1) := by decide +kernel
theorem dX1_capture_29 : decode cX1_capture 29 = .ok (.getfield 105, 3) := by decide +kernel
theorem dX1_capture_32 : decode cX1_capture 32 = .ok (.putfield 105, 3) := by decide +kernel
theorem dX1_capture_35 : decode cX1_capture 35 = .ok (.aload_n 0, 1) := by decide +kernel
theorem dX1_capture_36 : decode cX1_capture 36 = .ok (.dup, 1) := by decide +kernel
theorem dX1_capture_37 : decode cX1_capture 37 = .ok (.getfield 53, 3) := by decide +kernel
theorem dX1_capture_40 : decode cX1_capture 40 = .ok (.iconst 1, 1) := by decide +kernel
theorem dX1_capture_41 : decode cX1_capture 41 = .ok (.iadd, 1) := by decide +kernel
theorem dX1_capture_42 : decode cX1_capture 42 = .ok (.putfield 53, 3) := by decide +kernel
theorem dX1_capture_45 : decode cX1_capture 45 = .ok (.return_, 1) := by decide +kernel
theorem dX1_mend_0 : decode cX1_mend 0 = .ok (.aload_n 0, 1) := by decide +kernel
theorem dX1_mend_1 : decode cX1_mend 1 = .ok (.iload_n 1, 1) := by decide +kernel
theorem dX1_mend_2 : decode cX1_mend 2 = .ok (.invokevirtual 158, 3) := by decide +kernel
theorem dX1_mend_5 : decode cX1_mend 5 = .ok (.astore_n 3, 1) := by decide +kernel
theorem dX1_mend_6 : decode cX1_mend 6 = .ok (.aload_n 3, 1) := by decide +kernel
theorem dX1_mend_7 : decode cX1_mend 7 = .ok (.ifnull 12, 3) := by decide +kernel
theorem dX1_mend_10 : decode cX1_mend 10 = .ok (.iload_n 2, 1) := by decide +kernel
theorem dX1_mend_11 : decode cX1_mend 11 = .ok (.ifCond .lt 8, 3) := by decide +kernel
theorem dX1_mend_14 : decode cX1_mend 14 = .ok (.iload_n 2, 1) := by decide +kernel
theorem dX1_mend_15 : decode cX1_mend 15 = .ok (.iconst 2, 1) := by decide +kernel
theorem dX1_mend_16 : decode cX1_mend 16 = .ok (.if_icmp .le 5, 3) := by decide +kernel
theorem dX1_mend_19 : decode cX1_mend 19 = .ok (.iconst (-1), 1) := by decide +kernel
theorem dX1_mend_20 : decode cX1_mend 20 = .ok (.ireturn, 1) := by decide +kernel
theorem dX1_mend_21 : decode cX1_mend 21 = .ok (.aload_n 0, 1) := by decide +kernel
theorem dX1_mend_22 : decode cX1_mend 22 = .ok (.getfield 43, 3) := by decide +kernel
theorem dX1_mend_25 : decode cX1_mend 25 = .ok (.ifCond .eq 24, 3) := by decide +kernel
theorem dX1_mend_28 : decode cX1_mend 28 = .ok (.aload_n 3, 1) := by decide +kernel
theorem dX1_mend_29 : decode cX1_mend 29 = .ok (.invokevirtual 69, 3) := by decide +kernel
theorem dX1_mend_32 : decode cX1_mend 32 = .ok (.ifCond .eq 17, 3) := by decide +kernel
theorem dX1_mend_35 : decode cX1_mend 35 = .ok (.aload_n 3, 1) := by decide +kernel
theorem dX1_mend_36 : decode cX1_mend 36 = .ok (.invokevirtual 217, 3) := by decide +kernel
theorem dX1_mend_39 : decode cX1_mend 39 = .ok (.ifCond .ne 10, 3) := by decide +kernel
theorem dX1_mend_42 : decode cX1_mend 42 = .ok (.aload_n 3, 1) := by decide +kernel
theorem dX1_mend_43 : decode cX1_mend 43 = .ok (.getfield 186, 3) := by decide +kernel
theorem dX1_mend_46 : decode cX1_mend 46 = .ok (.ifCond .eq 6, 3) := by decide +kernel
theorem dX1_mend_49 : decode cX1_mend 49 = .ok (.bipush (-2), 2) := by decide +kernel
theorem dX1_mend_51 : decode cX1_mend 51 = .ok (.ireturn, 1) := by decide +kernel
theorem dX1_mend_52 : decode cX1_mend 52 = .ok (.aload_n 0, 1) := by decide +kernel
theorem dX1_mend_53 : decode cX1_mend 53 = .ok (.aload_n 3, 1) := by decide +kernel
theorem dX1_mend_54 : decode cX1_mend 54 = .ok (.getfield 105, 3) := by decide +kernel
theorem dX1_mend_57 : decode cX1_mend 57 = .ok (.invokevirtual 123, 3) := by decide +kernel
theorem dX1_mend_60 : decode cX1_mend 60 = .ok (.astore 4, 2) := by decide +kernel
theorem dX1_mend_62 : decode cX1_mend 62 = .ok (.aload_n 3, 1) := by decide +kernel
theorem dX1_mend_63 : decode cX1_mend 63 = .ok (.iload_n 2, 1) := by decide +kernel
theorem dX1_mend_64 : decode cX1_mend 64 = .ok (.aload 4, 2) := by decide +kernel
theorem dX1_mend_66 : decode cX1_mend 66 = .ok (.getfield 127, 3) := by decide +kernel
theorem dX1_mend_69 : decode cX1_mend 69 = .ok (.invokestatic 235, 3) := by decide +kernel
theorem dX1_mend_72 : decode cX1_mend 72 = .ok (.istore 5, 2) := by decide +kernel
theorem dX1_mend_74 : decode cX1_mend 74 = .ok (.iload 5, 2) := by decide +kernel
theorem dX1_mend_76 : decode cX1_mend 76 = .ok (.ifCond .gt 6, 3) := by decide +kernel
theorem dX1_mend_79 : decode cX1_mend 79 = .ok (.bipush (-2), 2) := by decide +kernel
theorem dX1_mend_81 : decode cX1_mend 81 = .ok (.ireturn, 1) := by decide +kernel
theorem dX1_mend_82 : decode cX1_mend 82 = .ok (.iload_n 2, 1) := by decide +kernel
theorem dX1_mend_83 : decode cX1_mend 83 = .ok (.ifCond .ne 17, 3) := by decide +kernel
theorem dX1_mend_86 : decode cX1_mend 86 = .ok (.aload_n 3, 1) := by decide +kernel
theorem dX1_mend_87 : decode cX1_mend 87 = .ok (.dup, 1) := by decide +kernel
theorem dX1_mend_88 : decode cX1_mend 88 = .ok (.getfield 111, 3) := by decide +kernel
theorem dX1_mend_91 : decode cX1_mend 91 = .ok (.iload 5, 2) := by decide +kernel
theorem dX1_mend_93 : decode cX1_mend 93 = .ok (.iadd, 1) := by decide +kernel
theorem dX1_mend_94 : decode cX1_mend 94 = .ok (.putfield 111, 3) := by decide +kernel
theorem dX1_mend_97 : decode cX1_mend 97 = .ok (.goto 33, 3) := by decide +kernel
theorem dX1_mend_100 : decode cX1_mend 100 = .ok (.iload_n 2, 1) := by decide +kernel
theorem dX1_mend_101 : decode cX1_mend 101 = .ok (.iconst 1, 1) := by decide +kernel
theorem dX1_mend_102 : decode cX1_mend 102 = .ok (.if_icmp .ne 17, 3) := by decide +kernel
theorem dX1_mend_105 : decode cX1_mend 105 = .ok (.aload_n 3, 1) := by decide +kernel
theorem dX1_mend_106 : decode cX1_mend 106 = .ok (.dup, 1) := by decide +kernel
theorem dX1_mend_107 : decode cX1_mend 107 = .ok (.getfield 114, 3) := by decide +kernel
theorem dX1_mend_110 : decode cX1_mend 110 = .ok (.iload 5, 2) := by decide +kernel
theorem dX1_mend_112 : decode cX1_mend 112 = .ok (.iadd, 1) := by decide +kernel
theorem dX1_mend_113 : decode cX1_mend 113 = .ok (.putfield 114, 3) := by decide +kernel
theorem dX1_mend_116 : decode cX1_mend 116 = .ok (.goto 14, 3) := by decide +kernel
theorem dX1_mend_119 : decode cX1_mend 119 = .ok (.aload_n 3, 1) := by decide +kernel
theorem dX1_mend_120 : decode cX1_mend 120 = .ok (.dup, 1) := by decide +kernel
theorem dX1_mend_121 : decode cX1_mend 121 = .ok (.getfield 120, 3) := by decide +kernel
theorem dX1_mend_124 : decode cX1_mend 124 = .ok (.iload 5, 2) := by decide +kernel
theorem dX1_mend_126 : decode cX1_mend 126 = .ok (.iadd, 1) := by decide +kernel
theorem dX1_mend_127 : decode cX1_mend 127 = .ok (.putfield 120, 3) := by decide +kernel
theorem dX1_mend_130 : decode cX1_mend 130 = .ok (.aload 4, 2) := by decide +kernel
theorem dX1_mend_132 : decode cX1_mend 132 = .ok (.dup, 1) := by decide +kernel
theorem dX1_mend_133 : decode cX1_mend 133 = .ok (.getfield 127, 3) := by decide +kernel
theorem dX1_mend_136 : decode cX1_mend 136 = .ok (.iload 5, 2) := by decide +kernel
theorem dX1_mend_138 : decode cX1_mend 138 = .ok (.iload_n 2, 1) := by decide +kernel
theorem dX1_mend_139 : decode cX1_mend 139 = .ok (.iconst 1, 1) := by decide +kernel
theorem dX1_mend_140 : decode cX1_mend 140 = .ok (.iadd, 1) := by decide +kernel
theorem dX1_mend_141 : decode cX1_mend 141 = .ok (.imul, 1) := by decide +kernel
theorem dX1_mend_142 : decode cX1_mend 142 = .ok (.isub, 1) := by decide +kernel
theorem dX1_mend_143 : decode cX1_mend 143 = .ok (.putfield 127, 3) := by decide +kernel
theorem dX1_mend_146 : decode cX1_mend 146 = .ok (.aload_n 3, 1) := by decide +kernel
theorem dX1_mend_147 : decode cX1_mend 147 = .ok (.dup, 1) := by decide +kernel
theorem dX1_mend_148 : decode cX1_mend 148 = .ok (.getfield 186, 3) := by decide +kernel
theorem dX1_mend_151 : decode cX1_mend 151 = .ok (.iconst 4, 1) := by decide +kernel
theorem dX1_mend_152 : decode cX1_mend 152 = .ok (.ior, 1) := by decide +kernel
theorem dX1_mend_153 : decode cX1_mend 153 = .ok (.putfield 186, 3) := by decide +kernel
theorem dX1_mend_156 : decode cX1_mend 156 = .ok (.iload 5, 2) := by decide +kernel
theorem dX1_mend_158 : decode cX1_mend 158 = .ok (.ireturn, 1) := by decide +kernel
theorem dX1_mendable_0 : decode cX1_mendable 0 = .ok (.iload_n 1, 1) := by decide +kernel
theorem dX1_mendable_1 : decode cX1_mendable 1 = .ok (.ifCond .ne 24, 3) := by decide +kernel
theorem dX1_mendable_4 : decode cX1_mendable 4 = .ok (.iload_n 2, 1) := by decide +kernel
theorem dX1_mendable_5 : decode cX1_mendable 5 = .ok (.aload_n 0, 1) := by decide +kernel
theorem dX1_mendable_6 : decode cX1_mendable 6 = .ok (.getfield 117, 3) := by decide +kernel
theorem dX1_mendable_9 : decode cX1_mendable 9 = .ok (.iconst 4, 1) := by decide +kernel
theorem dX1_mendable_10 : decode cX1_mendable 10 = .ok (.idiv, 1) := by decide +kernel
theorem dX1_mendable_11 : decode cX1_mendable 11 = .ok (.bipush 20, 2) := by decide +kernel
theorem dX1_mendable_13 : decode cX1_mendable 13 = .ok (.aload_n 0, 1) := by decide +kernel
theorem dX1_mendable_14 : decode cX1_mendable 14 = .ok (.getfield 111, 3) := by decide +kernel
theorem dX1_mendable_17 : decode cX1_mendable 17 = .ok (.isub, 1) := by decide +kernel
theorem dX1_mendable_18 : decode cX1_mendable 18 = .ok (.invokestatic 238, 3) := by decide +kernel
theorem dX1_mendable_21 : decode cX1_mendable 21 = .ok (.invokestatic 238, 3) := by decide +kernel
theorem dX1_mendable_24 : decode cX1_mendable 24 = .ok (.ireturn, 1) := by decide +kernel
theorem dX1_mendable_25 : decode cX1_mendable 25 = .ok (.iload_n 1, 1) := by decide +kernel
theorem dX1_mendable_26 : decode cX1_mendable 26 = .ok (.iconst 1, 1) := by decide +kernel
theorem dX1_mendable_27 : decode cX1_mendable 27 = .ok (.if_icmp .ne 23, 3) := by decide +kernel
theorem dX1_mendable_30 : decode cX1_mendable 30 = .ok (.aload_n 0, 1) := by decide +kernel
theorem dX1_mendable_31 : decode cX1_mendable 31 = .ok (.getfield 114, 3) := by decide +kernel
theorem dX1_mendable_34 : decode cX1_mendable 34 = .ok (.bipush 8, 2) := by decide +kernel
theorem dX1_mendable_36 : decode cX1_mendable 36 = .ok (.if_icmp .ge 12, 3) := by decide +kernel
theorem dX1_mendable_39 : decode cX1_mendable 39 = .ok (.iload_n 2, 1) := by decide +kernel
theorem dX1_mendable_40 : decode cX1_mendable 40 = .ok (.iconst 2, 1) := by decide +kernel
theorem dX1_mendable_41 : decode cX1_mendable 41 = .ok (.if_icmp .lt 7, 3) := by decide +kernel
theorem dX1_mendable_44 : decode cX1_mendable 44 = .ok (.iconst 1, 1) := by decide +kernel
theorem dX1_mendable_45 : decode cX1_mendable 45 = .ok (.goto 4, 3) := by decide +kernel
theorem dX1_mendable_48 : decode cX1_mendable 48 = .ok (.iconst 0, 1) := by decide +kernel
theorem dX1_mendable_49 : decode cX1_mendable 49 = .ok (.ireturn, 1) := by decide +kernel
theorem dX1_mendable_50 : decode cX1_mendable 50 = .ok (.aload_n 0, 1) := by decide +kernel
theorem dX1_mendable_51 : decode cX1_mendable 51 = .ok (.getfield 120, 3) := by decide +kernel
theorem dX1_mendable_54 : decode cX1_mendable 54 = .ok (.bipush 9, 2) := by decide +kernel
theorem dX1_mendable_56 : decode cX1_mendable 56 = .ok (.if_icmp .ge 12, 3) := by decide +kernel
theorem dX1_mendable_59 : decode cX1_mendable 59 = .ok (.iload_n 2, 1) := by decide +kernel
theorem dX1_mendable_60 : decode cX1_mendable 60 = .ok (.iconst 3, 1) := by decide +kernel
theorem dX1_mendable_61 : decode cX1_mendable 61 = .ok (.if_icmp .lt 7, 3) := by decide +kernel
theorem dX1_mendable_64 : decode cX1_mendable 64 = .ok (.iconst 1, 1) := by decide +kernel
theorem dX1_mendable_65 : decode cX1_mendable 65 = .ok (.goto 4, 3) := by decide +kernel
theorem dX1_mendable_68 : decode cX1_mendable 68 = .ok (.iconst 0, 1) := by decide +kernel
theorem dX1_mendable_69 : decode cX1_mendable 69 = .ok (.ireturn, 1) := by decide +kernel
theorem dX1_endTurn_0 : decode cX1_endTurn 0 = .ok (.aload_n 0, 1) := by decide +kernel
theorem dX1_endTurn_1 : decode cX1_endTurn 1 = .ok (.getfield 43, 3) := by decide +kernel
theorem dX1_endTurn_4 : decode cX1_endTurn 4 = .ok (.ifCond .ne 6, 3) := by decide +kernel
theorem dX1_endTurn_7 : decode cX1_endTurn 7 = .ok (.bipush (-2), 2) := by decide +kernel
theorem dX1_endTurn_9 : decode cX1_endTurn 9 = .ok (.ireturn, 1) := by decide +kernel
theorem dX1_endTurn_10 : decode cX1_endTurn 10 = .ok (.aload_n 0, 1) := by decide +kernel
theorem dX1_endTurn_11 : decode cX1_endTurn 11 = .ok (.getfield 33, 3) := by decide +kernel
theorem dX1_endTurn_14 : decode cX1_endTurn 14 = .ok (.astore_n 1, 1) := by decide +kernel
theorem dX1_endTurn_15 : decode cX1_endTurn 15 = .ok (.aload_n 1, 1) := by decide +kernel
theorem dX1_endTurn_16 : decode cX1_endTurn 16 = .ok (.arraylength, 1) := by decide +kernel
theorem dX1_endTurn_17 : decode cX1_endTurn 17 = .ok (.istore_n 2, 1) := by decide +kernel
theorem dX1_endTurn_18 : decode cX1_endTurn 18 = .ok (.iconst 0, 1) := by decide +kernel
theorem dX1_endTurn_19 : decode cX1_endTurn 19 = .ok (.istore_n 3, 1) := by decide +kernel
theorem dX1_endTurn_20 : decode cX1_endTurn 20 = .ok (.iload_n 3, 1) := by decide +kernel
theorem dX1_endTurn_21 : decode cX1_endTurn 21 = .ok (.iload_n 2, 1) := by decide +kernel
theorem dX1_endTurn_22 : decode cX1_endTurn 22 = .ok (.if_icmp .ge 51, 3) := by decide +kernel
theorem dX1_endTurn_25 : decode cX1_endTurn 25 = .ok (.aload_n 1, 1) := by decide +kernel
theorem dX1_endTurn_26 : decode cX1_endTurn 26 = .ok (.iload_n 3, 1) := by decide +kernel
theorem dX1_endTurn_27 : decode cX1_endTurn 27 = .ok (.aaload, 1) := by decide +kernel
theorem dX1_endTurn_28 : decode cX1_endTurn 28 = .ok (.astore 4, 2) := by decide +kernel
theorem dX1_endTurn_30 : decode cX1_endTurn 30 = .ok (.aload_n 0, 1) := by decide +kernel
theorem dX1_endTurn_31 : decode cX1_endTurn 31 = .ok (.aload 4, 2) := by decide +kernel
theorem dX1_endTurn_33 : decode cX1_endTurn 33 = .ok (.getfield 223, 3) := by decide +kernel
theorem dX1_endTurn_36 : decode cX1_endTurn 36 = .ok (.invokevirtual 158, 3) := by decide +kernel
theorem dX1_endTurn_39 : decode cX1_endTurn 39 = .ok (.astore 5, 2) := by decide +kernel
theorem dX1_endTurn_41 : decode cX1_endTurn 41 = .ok (.aload 5, 2) := by decide +kernel
theorem dX1_endTurn_43 : decode cX1_endTurn 43 = .ok (.ifnull 24, 3) := by decide +kernel
theorem dX1_endTurn_46 : decode cX1_endTurn 46 = .ok (.aload 4, 2) := by decide +kernel
theorem dX1_endTurn_48 : decode cX1_endTurn 48 = .ok (.getfield 94, 3) := by decide +kernel
theorem dX1_endTurn_51 : decode cX1_endTurn 51 = .ok (.aload 5, 2) := by decide +kernel
theorem dX1_endTurn_53 : decode cX1_endTurn 53 = .ok (.getfield 94, 3) := by decide +kernel
theorem dX1_endTurn_56 : decode cX1_endTurn 56 = .ok (.if_icmp .ge 11, 3) := by decide +kernel
theorem dX1_endTurn_59 : decode cX1_endTurn 59 = .ok (.aload_n 0, 1) := by decide +kernel
theorem dX1_endTurn_60 : decode cX1_endTurn 60 = .ok (.aload 4, 2) := by decide +kernel
theorem dX1_endTurn_62 : decode cX1_endTurn 62 = .ok (.aload 5, 2) := by decide +kernel
theorem dX1_endTurn_64 : decode cX1_endTurn 64 = .ok (.invokevirtual 241, 3) := by decide +kernel
theorem dX1_endTurn_67 : decode cX1_endTurn 67 = .ok (.iinc 3 1, 3) := by decide +kernel
theorem dX1_endTurn_70 : decode cX1_endTurn 70 = .ok (.goto (-50), 3) := by decide +kernel
theorem dX1_endTurn_73 : decode cX1_endTurn 73 = .ok (.aload_n 0, 1) := by decide +kernel
theorem dX1_endTurn_74 : decode cX1_endTurn 74 = .ok (.getfield 33, 3) := by decide +kernel
theorem dX1_endTurn_77 : decode cX1_endTurn 77 = .ok (.astore_n 1, 1) := by decide +kernel
theorem dX1_endTurn_78 : decode cX1_endTurn 78 = .ok (.aload_n 1, 1) := by decide +kernel
theorem dX1_endTurn_79 : decode cX1_endTurn 79 = .ok (.arraylength, 1) := by decide +kernel
theorem dX1_endTurn_80 : decode cX1_endTurn 80 = .ok (.istore_n 2, 1) := by decide +kernel
theorem dX1_endTurn_81 : decode cX1_endTurn 81 = .ok (.iconst 0, 1) := by decide +kernel
theorem dX1_endTurn_82 : decode cX1_endTurn 82 = .ok (.istore_n 3, 1) := by decide +kernel
theorem dX1_endTurn_83 : decode cX1_endTurn 83 = .ok (.iload_n 3, 1) := by decide +kernel
theorem dX1_endTurn_84 : decode cX1_endTurn 84 = .ok (.iload_n 2, 1) := by decide +kernel
theorem dX1_endTurn_85 : decode cX1_endTurn 85 = .ok (.if_icmp .ge 20, 3) := by decide +kernel
theorem dX1_endTurn_88 : decode cX1_endTurn 88 = .ok (.aload_n 1, 1) := by decide +kernel
theorem dX1_endTurn_89 : decode cX1_endTurn 89 = .ok (.iload_n 3, 1) := by decide +kernel
theorem dX1_endTurn_90 : decode cX1_endTurn 90 = .ok (.aaload, 1) := by decide +kernel
theorem dX1_endTurn_91 : decode cX1_endTurn 91 = .ok (.astore 4, 2) := by decide +kernel
theorem dX1_endTurn_93 : decode cX1_endTurn 93 = .ok (.aload 4, 2) := by decide +kernel
theorem dX1_endTurn_95 : decode cX1_endTurn 95 = .ok (.iconst 0, 1) := by decide +kernel
theorem dX1_endTurn_96 : decode cX1_endTurn 96 = .ok (.putfield 186, 3) := by decide +kernel
theorem dX1_endTurn_99 : decode cX1_endTurn 99 = .ok (.iinc 3 1, 3) := by decide +kernel
theorem dX1_endTurn_102 : decode cX1_endTurn 102 = .ok (.goto (-19), 3) := by decide +kernel
theorem dX1_endTurn_105 : decode cX1_endTurn 105 = .ok (.aload_n 0, 1) := by decide +kernel
theorem dX1_endTurn_106 : decode cX1_endTurn 106 = .ok (.iconst 0, 1) := by decide +kernel
theorem dX1_endTurn_107 : decode cX1_endTurn 107 = .ok (.putfield 43, 3) := by decide +kernel
theorem dX1_endTurn_110 : decode cX1_endTurn 110 = .ok (.aload_n 0, 1) := by decide +kernel
theorem dX1_endTurn_111 : decode cX1_endTurn 111 = .ok (.dup, 1) := by decide +kernel
theorem dX1_endTurn_112 : decode cX1_endTurn 112 = .ok (.getfield 40, 3) := by decide +kernel
theorem dX1_endTurn_115 : decode cX1_endTurn 115 = .ok (.iconst 1, 1) := by decide +kernel
theorem dX1_endTurn_116 : decode cX1_endTurn 116 = .ok (.iadd, 1) := by decide +kernel
theorem dX1_endTurn_117 : decode cX1_endTurn 117 = .ok (.putfield 40, 3) := by decide +kernel
theorem dX1_endTurn_120 : decode cX1_endTurn 120 = .ok (.aload_n 0, 1) := by decide +kernel
theorem dX1_endTurn_121 : decode cX1_endTurn 121 = .ok (.getfield 40, 3) := by decide +kernel
theorem dX1_endTurn_124 : decode cX1_endTurn 124 = .ok (.ireturn, 1) := by decide +kernel
theorem dX1_tally_0 : decode cX1_tally 0 = .ok (.iload_n 1, 1) := by decide +kernel
theorem dX1_tally_1 : decode cX1_tally 1 = .ok (.tableswitch 111 0 8 #[51, 56, 69, 74, 79, 84, 89, 101, 106], 51) := by decide +kernel
theorem dX1_tally_52 : decode cX1_tally 52 = .ok (.aload_n 0, 1) := by decide +kernel
theorem dX1_tally_53 : decode cX1_tally 53 = .ok (.getfield 40, 3) := by decide +kernel
theorem dX1_tally_56 : decode cX1_tally 56 = .ok (.ireturn, 1) := by decide +kernel
theorem dX1_tally_57 : decode cX1_tally 57 = .ok (.aload_n 0, 1) := by decide +kernel
theorem dX1_tally_58 : decode cX1_tally 58 = .ok (.getfield 43, 3) := by decide +kernel
theorem dX1_tally_61 : decode cX1_tally 61 = .ok (.ifCond .eq 7, 3) := by decide +kernel
theorem dX1_tally_64 : decode cX1_tally 64 = .ok (.iconst 1, 1) := by decide +kernel
theorem dX1_tally_65 : decode cX1_tally 65 = .ok (.goto 4, 3) := by decide +kernel
theorem dX1_tally_68 : decode cX1_tally 68 = .ok (.iconst 0, 1) := by decide +kernel
theorem dX1_tally_69 : decode cX1_tally 69 = .ok (.ireturn, 1) := by decide +kernel
theorem dX1_tally_70 : decode cX1_tally 70 = .ok (.aload_n 0, 1) := by decide +kernel
theorem dX1_tally_71 : decode cX1_tally 71 = .ok (.getfield 47, 3) := by decide +kernel
theorem dX1_tally_74 : decode cX1_tally 74 = .ok (.ireturn, 1) := by decide +kernel
theorem dX1_tally_75 : decode cX1_tally 75 = .ok (.aload_n 0, 1) := by decide +kernel
theorem dX1_tally_76 : decode cX1_tally 76 = .ok (.getfield 9, 3) := by decide +kernel
theorem dX1_tally_79 : decode cX1_tally 79 = .ok (.ireturn, 1) := by decide +kernel
theorem dX1_tally_80 : decode cX1_tally 80 = .ok (.aload_n 0, 1) := by decide +kernel
theorem dX1_tally_81 : decode cX1_tally 81 = .ok (.invokevirtual 142, 3) := by decide +kernel
theorem dX1_tally_84 : decode cX1_tally 84 = .ok (.ireturn, 1) := by decide +kernel
theorem dX1_tally_85 : decode cX1_tally 85 = .ok (.aload_n 0, 1) := by decide +kernel
theorem dX1_tally_86 : decode cX1_tally 86 = .ok (.getfield 50, 3) := by decide +kernel
theorem dX1_tally_89 : decode cX1_tally 89 = .ok (.ireturn, 1) := by decide +kernel
theorem dX1_tally_90 : decode cX1_tally 90 = .ok (.aload_n 0, 1) := by decide +kernel
theorem dX1_tally_91 : decode cX1_tally 91 = .ok (.iconst 0, 1) := by decide +kernel
theorem dX1_tally_92 : decode cX1_tally 92 = .ok (.invokevirtual 244, 3) := by decide +kernel
theorem dX1_tally_95 : decode cX1_tally 95 = .ok (.aload_n 0, 1) := by decide +kernel
theorem dX1_tally_96 : decode cX1_tally 96 = .ok (.iconst 1, 1) := by decide +kernel
theorem dX1_tally_97 : decode cX1_tally 97 = .ok (.invokevirtual 244, 3) := by decide +kernel
theorem dX1_tally_100 : decode cX1_tally 100 = .ok (.ior, 1) := by decide +kernel
theorem dX1_tally_101 : decode cX1_tally 101 = .ok (.ireturn, 1) := by decide +kernel
theorem dX1_tally_102 : decode cX1_tally 102 = .ok (.aload_n 0, 1) := by decide +kernel
theorem dX1_tally_103 : decode cX1_tally 103 = .ok (.invokevirtual 97, 3) := by decide +kernel
theorem dX1_tally_106 : decode cX1_tally 106 = .ok (.ireturn, 1) := by decide +kernel
theorem dX1_tally_107 : decode cX1_tally 107 = .ok (.aload_n 0, 1) := by decide +kernel
theorem dX1_tally_108 : decode cX1_tally 108 = .ok (.getfield 53, 3) := by decide +kernel
theorem dX1_tally_111 : decode cX1_tally 111 = .ok (.ireturn, 1) := by decide +kernel
theorem dX1_tally_112 : decode cX1_tally 112 = .ok (.iconst (-1), 1) := by decide +kernel
theorem dX1_tally_113 : decode cX1_tally 113 = .ok (.ireturn, 1) := by decide +kernel
theorem dX1_islandCount_0 : decode cX1_islandCount 0 = .ok (.iconst 0, 1) := by decide +kernel
theorem dX1_islandCount_1 : decode cX1_islandCount 1 = .ok (.istore_n 1, 1) := by decide +kernel
theorem dX1_islandCount_2 : decode cX1_islandCount 2 = .ok (.aload_n 0, 1) := by decide +kernel
theorem dX1_islandCount_3 : decode cX1_islandCount 3 = .ok (.getfield 27, 3) := by decide +kernel
theorem dX1_islandCount_6 : decode cX1_islandCount 6 = .ok (.astore_n 2, 1) := by decide +kernel
theorem dX1_islandCount_7 : decode cX1_islandCount 7 = .ok (.aload_n 2, 1) := by decide +kernel
theorem dX1_islandCount_8 : decode cX1_islandCount 8 = .ok (.arraylength, 1) := by decide +kernel
theorem dX1_islandCount_9 : decode cX1_islandCount 9 = .ok (.istore_n 3, 1) := by decide +kernel
theorem dX1_islandCount_10 : decode cX1_islandCount 10 = .ok (.iconst 0, 1) := by decide +kernel
theorem dX1_islandCount_11 : decode cX1_islandCount 11 = .ok (.istore 4, 2) := by decide +kernel
theorem dX1_islandCount_13 : decode cX1_islandCount 13 = .ok (.iload 4, 2) := by decide +kernel
theorem dX1_islandCount_15 : decode cX1_islandCount 15 = .ok (.iload_n 3, 1) := by decide +kernel
theorem dX1_islandCount_16 : decode cX1_islandCount 16 = .ok (.if_icmp .ge 20, 3) := by decide +kernel
theorem dX1_islandCount_19 : decode cX1_islandCount 19 = .ok (.aload_n 2, 1) := by decide +kernel
theorem dX1_islandCount_20 : decode cX1_islandCount 20 = .ok (.iload 4, 2) := by decide +kernel
theorem dX1_islandCount_22 : decode cX1_islandCount 22 = .ok (.iaload, 1) := by decide +kernel
theorem dX1_islandCount_23 : decode cX1_islandCount 23 = .ok (.istore 5, 2) := by decide +kernel
theorem dX1_islandCount_25 : decode cX1_islandCount 25 = .ok (.iload_n 1, 1) := by decide +kernel
theorem dX1_islandCount_26 : decode cX1_islandCount 26 = .ok (.iload 5, 2) := by decide +kernel
theorem dX1_islandCount_28 : decode cX1_islandCount 28 = .ok (.iadd, 1) := by decide +kernel
theorem dX1_islandCount_29 : decode cX1_islandCount 29 = .ok (.istore_n 1, 1) := by decide +kernel
theorem dX1_islandCount_30 : decode cX1_islandCount 30 = .ok (.iinc 4 1, 3) := by decide +kernel
theorem dX1_islandCount_33 : decode cX1_islandCount 33 = .ok (.goto (-20), 3) := by decide +kernel
theorem dX1_islandCount_36 : decode cX1_islandCount 36 = .ok (.iload_n 1, 1) := by decide +kernel
theorem dX1_islandCount_37 : decode cX1_islandCount 37 = .ok (.ireturn, 1) := by decide +kernel
theorem dX1_fleetOf_0 : decode cX1_fleetOf 0 = .ok (.iconst 0, 1) := by decide +kernel
theorem dX1_fleetOf_1 : decode cX1_fleetOf 1 = .ok (.istore_n 2, 1) := by decide +kernel
theorem dX1_fleetOf_2 : decode cX1_fleetOf 2 = .ok (.aload_n 0, 1) := by decide +kernel
theorem dX1_fleetOf_3 : decode cX1_fleetOf 3 = .ok (.getfield 33, 3) := by decide +kernel
theorem dX1_fleetOf_6 : decode cX1_fleetOf 6 = .ok (.astore_n 3, 1) := by decide +kernel
theorem dX1_fleetOf_7 : decode cX1_fleetOf 7 = .ok (.aload_n 3, 1) := by decide +kernel
theorem dX1_fleetOf_8 : decode cX1_fleetOf 8 = .ok (.arraylength, 1) := by decide +kernel
theorem dX1_fleetOf_9 : decode cX1_fleetOf 9 = .ok (.istore 4, 2) := by decide +kernel
theorem dX1_fleetOf_11 : decode cX1_fleetOf 11 = .ok (.iconst 0, 1) := by decide +kernel
theorem dX1_fleetOf_12 : decode cX1_fleetOf 12 = .ok (.istore 5, 2) := by decide +kernel
theorem dX1_fleetOf_14 : decode cX1_fleetOf 14 = .ok (.iload 5, 2) := by decide +kernel
theorem dX1_fleetOf_16 : decode cX1_fleetOf 16 = .ok (.iload 4, 2) := by decide +kernel
theorem dX1_fleetOf_18 : decode cX1_fleetOf 18 = .ok (.if_icmp .ge 42, 3) := by decide +kernel
theorem dX1_fleetOf_21 : decode cX1_fleetOf 21 = .ok (.aload_n 3, 1) := by decide +kernel
theorem dX1_fleetOf_22 : decode cX1_fleetOf 22 = .ok (.iload 5, 2) := by decide +kernel
theorem dX1_fleetOf_24 : decode cX1_fleetOf 24 = .ok (.aaload, 1) := by decide +kernel
theorem dX1_fleetOf_25 : decode cX1_fleetOf 25 = .ok (.astore 6, 2) := by decide +kernel
theorem dX1_fleetOf_27 : decode cX1_fleetOf 27 = .ok (.aload 6, 2) := by decide +kernel
theorem dX1_fleetOf_29 : decode cX1_fleetOf 29 = .ok (.invokevirtual 69, 3) := by decide +kernel
theorem dX1_fleetOf_32 : decode cX1_fleetOf 32 = .ok (.ifCond .eq 22, 3) := by decide +kernel
theorem dX1_fleetOf_35 : decode cX1_fleetOf 35 = .ok (.aload 6, 2) := by decide +kernel
theorem dX1_fleetOf_37 : decode cX1_fleetOf 37 = .ok (.getfield 105, 3) := by decide +kernel
theorem dX1_fleetOf_40 : decode cX1_fleetOf 40 = .ok (.iload_n 1, 1) := by decide +kernel
theorem dX1_fleetOf_41 : decode cX1_fleetOf 41 = .ok (.if_icmp .ne 13, 3) := by decide +kernel
theorem dX1_fleetOf_44 : decode cX1_fleetOf 44 = .ok (.iload_n 2, 1) := by decide +kernel
theorem dX1_fleetOf_45 : decode cX1_fleetOf 45 = .ok (.iconst 1, 1) := by decide +kernel
theorem dX1_fleetOf_46 : decode cX1_fleetOf 46 = .ok (.aload 6, 2) := by decide +kernel
theorem dX1_fleetOf_48 : decode cX1_fleetOf 48 = .ok (.getfield 94, 3) := by decide +kernel
theorem dX1_fleetOf_51 : decode cX1_fleetOf 51 = .ok (.ishl, 1) := by decide +kernel
theorem dX1_fleetOf_52 : decode cX1_fleetOf 52 = .ok (.ior, 1) := by decide +kernel
theorem dX1_fleetOf_53 : decode cX1_fleetOf 53 = .ok (.istore_n 2, 1) := by decide +kernel
theorem dX1_fleetOf_54 : decode cX1_fleetOf 54 = .ok (.iinc 5 1, 3) := by decide +kernel
theorem dX1_fleetOf_57 : decode cX1_fleetOf 57 = .ok (.goto (-43), 3) := by decide +kernel
theorem dX1_fleetOf_60 : decode cX1_fleetOf 60 = .ok (.iload_n 2, 1) := by decide +kernel
theorem dX1_fleetOf_61 : decode cX1_fleetOf 61 = .ok (.ireturn, 1) := by decide +kernel
theorem dX1_hullsOf_0 : decode cX1_hullsOf 0 = .ok (.iconst 0, 1) := by decide +kernel
theorem dX1_hullsOf_1 : decode cX1_hullsOf 1 = .ok (.istore_n 2, 1) := by decide +kernel
theorem dX1_hullsOf_2 : decode cX1_hullsOf 2 = .ok (.aload_n 0, 1) := by decide +kernel
theorem dX1_hullsOf_3 : decode cX1_hullsOf 3 = .ok (.getfield 33, 3) := by decide +kernel
theorem dX1_hullsOf_6 : decode cX1_hullsOf 6 = .ok (.astore_n 3, 1) := by decide +kernel
theorem dX1_hullsOf_7 : decode cX1_hullsOf 7 = .ok (.aload_n 3, 1) := by decide +kernel
theorem dX1_hullsOf_8 : decode cX1_hullsOf 8 = .ok (.arraylength, 1) := by decide +kernel
theorem dX1_hullsOf_9 : decode cX1_hullsOf 9 = .ok (.istore 4, 2) := by decide +kernel
theorem dX1_hullsOf_11 : decode cX1_hullsOf 11 = .ok (.iconst 0, 1) := by decide +kernel
theorem dX1_hullsOf_12 : decode cX1_hullsOf 12 = .ok (.istore 5, 2) := by decide +kernel
theorem dX1_hullsOf_14 : decode cX1_hullsOf 14 = .ok (.iload 5, 2) := by decide +kernel
theorem dX1_hullsOf_16 : decode cX1_hullsOf 16 = .ok (.iload 4, 2) := by decide +kernel
theorem dX1_hullsOf_18 : decode cX1_hullsOf 18 = .ok (.if_icmp .ge 40, 3) := by decide +kernel
theorem dX1_hullsOf_21 : decode cX1_hullsOf 21 = .ok (.aload_n 3, 1) := by decide +kernel
theorem dX1_hullsOf_22 : decode cX1_hullsOf 22 = .ok (.iload 5, 2) := by decide +kernel
theorem dX1_hullsOf_24 : decode cX1_hullsOf 24 = .ok (.aaload, 1) := by decide +kernel
theorem dX1_hullsOf_25 : decode cX1_hullsOf 25 = .ok (.astore 6, 2) := by decide +kernel
theorem dX1_hullsOf_27 : decode cX1_hullsOf 27 = .ok (.aload 6, 2) := by decide +kernel
theorem dX1_hullsOf_29 : decode cX1_hullsOf 29 = .ok (.invokevirtual 69, 3) := by decide +kernel
theorem dX1_hullsOf_32 : decode cX1_hullsOf 32 = .ok (.ifCond .eq 20, 3) := by decide +kernel
theorem dX1_hullsOf_35 : decode cX1_hullsOf 35 = .ok (.aload 6, 2) := by decide +kernel
theorem dX1_hullsOf_37 : decode cX1_hullsOf 37 = .ok (.getfield 105, 3) := by decide +kernel
theorem dX1_hullsOf_40 : decode cX1_hullsOf 40 = .ok (.iload_n 1, 1) := by decide +kernel
theorem dX1_hullsOf_41 : decode cX1_hullsOf 41 = .ok (.if_icmp .ne 11, 3) := by decide +kernel
theorem dX1_hullsOf_44 : decode cX1_hullsOf 44 = .ok (.iload_n 2, 1) := by decide +kernel
theorem dX1_hullsOf_45 : decode cX1_hullsOf 45 = .ok (.aload 6, 2) := by decide +kernel
theorem dX1_hullsOf_47 : decode cX1_hullsOf 47 = .ok (.getfield 111, 3) := by decide +kernel
theorem dX1_hullsOf_50 : decode cX1_hullsOf 50 = .ok (.iadd, 1) := by decide +kernel
theorem dX1_hullsOf_51 : decode cX1_hullsOf 51 = .ok (.istore_n 2, 1) := by decide +kernel
theorem dX1_hullsOf_52 : decode cX1_hullsOf 52 = .ok (.iinc 5 1, 3) := by decide +kernel
theorem dX1_hullsOf_55 : decode cX1_hullsOf 55 = .ok (.goto (-41), 3) := by decide +kernel
theorem dX1_hullsOf_58 : decode cX1_hullsOf 58 = .ok (.iload_n 2, 1) := by decide +kernel
theorem dX1_hullsOf_59 : decode cX1_hullsOf 59 = .ok (.ireturn, 1) := by decide +kernel
theorem dX1_strengthOf_0 : decode cX1_strengthOf 0 = .ok (.iconst 0, 1) := by decide +kernel
theorem dX1_strengthOf_1 : decode cX1_strengthOf 1 = .ok (.istore_n 2, 1) := by decide +kernel
theorem dX1_strengthOf_2 : decode cX1_strengthOf 2 = .ok (.aload_n 0, 1) := by decide +kernel
theorem dX1_strengthOf_3 : decode cX1_strengthOf 3 = .ok (.getfield 33, 3) := by decide +kernel
theorem dX1_strengthOf_6 : decode cX1_strengthOf 6 = .ok (.astore_n 3, 1) := by decide +kernel
theorem dX1_strengthOf_7 : decode cX1_strengthOf 7 = .ok (.aload_n 3, 1) := by decide +kernel
theorem dX1_strengthOf_8 : decode cX1_strengthOf 8 = .ok (.arraylength, 1) := by decide +kernel
theorem dX1_strengthOf_9 : decode cX1_strengthOf 9 = .ok (.istore 4, 2) := by decide +kernel
theorem dX1_strengthOf_11 : decode cX1_strengthOf 11 = .ok (.iconst 0, 1) := by decide +kernel
theorem dX1_strengthOf_12 : decode cX1_strengthOf 12 = .ok (.istore 5, 2) := by decide +kernel
theorem dX1_strengthOf_14 : decode cX1_strengthOf 14 = .ok (.iload 5, 2) := by decide +kernel
theorem dX1_strengthOf_16 : decode cX1_strengthOf 16 = .ok (.iload 4, 2) := by decide +kernel
theorem dX1_strengthOf_18 : decode cX1_strengthOf 18 = .ok (.if_icmp .ge 63, 3) := by decide +kernel
theorem dX1_strengthOf_21 : decode cX1_strengthOf 21 = .ok (.aload_n 3, 1) := by decide +kernel
theorem dX1_strengthOf_22 : decode cX1_strengthOf 22 = .ok (.iload 5, 2) := by decide +kernel
theorem dX1_strengthOf_24 : decode cX1_strengthOf 24 = .ok (.aaload, 1) := by decide +kernel
theorem dX1_strengthOf_25 : decode cX1_strengthOf 25 = .ok (.astore 6, 2) := by decide +kernel
theorem dX1_strengthOf_27 : decode cX1_strengthOf 27 = .ok (.aload 6, 2) := by decide +kernel
theorem dX1_strengthOf_29 : decode cX1_strengthOf 29 = .ok (.invokevirtual 69, 3) := by decide +kernel
theorem dX1_strengthOf_32 : decode cX1_strengthOf 32 = .ok (.ifCond .eq 43, 3) := by decide +kernel
theorem dX1_strengthOf_35 : decode cX1_strengthOf 35 = .ok (.aload 6, 2) := by decide +kernel
theorem dX1_strengthOf_37 : decode cX1_strengthOf 37 = .ok (.getfield 105, 3) := by decide +kernel
theorem dX1_strengthOf_40 : decode cX1_strengthOf 40 = .ok (.iload_n 1, 1) := by decide +kernel
theorem dX1_strengthOf_41 : decode cX1_strengthOf 41 = .ok (.if_icmp .ne 34, 3) := by decide +kernel
theorem dX1_strengthOf_44 : decode cX1_strengthOf 44 = .ok (.iload_n 2, 1) := by decide +kernel
theorem dX1_strengthOf_45 : decode cX1_strengthOf 45 = .ok (.bipush 6, 2) := by decide +kernel
theorem dX1_strengthOf_47 : decode cX1_strengthOf 47 = .ok (.aload 6, 2) := by decide +kernel
theorem dX1_strengthOf_49 : decode cX1_strengthOf 49 = .ok (.getfield 111, 3) := by decide +kernel
theorem dX1_strengthOf_52 : decode cX1_strengthOf 52 = .ok (.imul, 1) := by decide +kernel
theorem dX1_strengthOf_53 : decode cX1_strengthOf 53 = .ok (.iconst 4, 1) := by decide +kernel
theorem dX1_strengthOf_54 : decode cX1_strengthOf 54 = .ok (.aload 6, 2) := by decide +kernel
theorem dX1_strengthOf_56 : decode cX1_strengthOf 56 = .ok (.getfield 117, 3) := by decide +kernel
theorem dX1_strengthOf_59 : decode cX1_strengthOf 59 = .ok (.imul, 1) := by decide +kernel
theorem dX1_strengthOf_60 : decode cX1_strengthOf 60 = .ok (.iadd, 1) := by decide +kernel
theorem dX1_strengthOf_61 : decode cX1_strengthOf 61 = .ok (.aload 6, 2) := by decide +kernel
theorem dX1_strengthOf_63 : decode cX1_strengthOf 63 = .ok (.getfield 120, 3) := by decide +kernel
theorem dX1_strengthOf_66 : decode cX1_strengthOf 66 = .ok (.aload 6, 2) := by decide +kernel
theorem dX1_strengthOf_68 : decode cX1_strengthOf 68 = .ok (.getfield 114, 3) := by decide +kernel
theorem dX1_strengthOf_71 : decode cX1_strengthOf 71 = .ok (.imul, 1) := by decide +kernel
theorem dX1_strengthOf_72 : decode cX1_strengthOf 72 = .ok (.iadd, 1) := by decide +kernel
theorem dX1_strengthOf_73 : decode cX1_strengthOf 73 = .ok (.iadd, 1) := by decide +kernel
theorem dX1_strengthOf_74 : decode cX1_strengthOf 74 = .ok (.istore_n 2, 1) := by decide +kernel
theorem dX1_strengthOf_75 : decode cX1_strengthOf 75 = .ok (.iinc 5 1, 3) := by decide +kernel
theorem dX1_strengthOf_78 : decode cX1_strengthOf 78 = .ok (.goto (-64), 3) := by decide +kernel
theorem dX1_strengthOf_81 : decode cX1_strengthOf 81 = .ok (.iload_n 2, 1) := by decide +kernel
theorem dX1_strengthOf_82 : decode cX1_strengthOf 82 = .ok (.bipush 8, 2) := by decide +kernel
theorem dX1_strengthOf_84 : decode cX1_strengthOf 84 = .ok (.idiv, 1) := by decide +kernel
theorem dX1_strengthOf_85 : decode cX1_strengthOf 85 = .ok (.ireturn, 1) := by decide +kernel
theorem dX1_tellOfCaptain_0 : decode cX1_tellOfCaptain 0 = .ok (.aload_n 0, 1) := by decide +kernel
theorem dX1_tellOfCaptain_1 : decode cX1_tellOfCaptain 1 = .ok (.iload_n 1, 1) := by decide +kernel
theorem dX1_tellOfCaptain_2 : decode cX1_tellOfCaptain 2 = .ok (.invokevirtual 123, 3) := by decide +kernel
theorem dX1_tellOfCaptain_5 : decode cX1_tellOfCaptain 5 = .ok (.astore_n 3, 1) := by decide +kernel
theorem dX1_tellOfCaptain_6 : decode cX1_tellOfCaptain 6 = .ok (.iload_n 2, 1) := by decide +kernel
theorem dX1_tellOfCaptain_7 : decode cX1_tellOfCaptain 7 = .ok (.tableswitch 60 0 4 #[33, 38, 43, 48, 54], 33) := by decide +kernel
theorem dX1_tellOfCaptain_40 : decode cX1_tellOfCaptain 40 = .ok (.aload_n 3, 1) := by decide +kernel
theorem dX1_tellOfCaptain_41 : decode cX1_tellOfCaptain 41 = .ok (.getfield 247, 3) := by decide +kernel
theorem dX1_tellOfCaptain_44 : decode cX1_tellOfCaptain 44 = .ok (.ireturn, 1) := by decide +kernel
theorem dX1_tellOfCaptain_45 : decode cX1_tellOfCaptain 45 = .ok (.aload_n 3, 1) := by decide +kernel
theorem dX1_tellOfCaptain_46 : decode cX1_tellOfCaptain 46 = .ok (.getfield 133, 3) := by decide +kernel
theorem dX1_tellOfCaptain_49 : decode cX1_tellOfCaptain 49 = .ok (.ireturn, 1) := by decide +kernel
theorem dX1_tellOfCaptain_50 : decode cX1_tellOfCaptain 50 = .ok (.aload_n 3, 1) := by decide +kernel
theorem dX1_tellOfCaptain_51 : decode cX1_tellOfCaptain 51 = .ok (.getfield 127, 3) := by decide +kernel
theorem dX1_tellOfCaptain_54 : decode cX1_tellOfCaptain 54 = .ok (.ireturn, 1) := by decide +kernel
theorem dX1_tellOfCaptain_55 : decode cX1_tellOfCaptain 55 = .ok (.aload_n 0, 1) := by decide +kernel
theorem dX1_tellOfCaptain_56 : decode cX1_tellOfCaptain 56 = .ok (.iload_n 1, 1) := by decide +kernel
theorem dX1_tellOfCaptain_57 : decode cX1_tellOfCaptain 57 = .ok (.invokevirtual 244, 3) := by decide +kernel
theorem dX1_tellOfCaptain_60 : decode cX1_tellOfCaptain 60 = .ok (.ireturn, 1) := by decide +kernel
theorem dX1_tellOfCaptain_61 : decode cX1_tellOfCaptain 61 = .ok (.aload_n 0, 1) := by decide +kernel
theorem dX1_tellOfCaptain_62 : decode cX1_tellOfCaptain 62 = .ok (.iload_n 1, 1) := by decide +kernel
theorem dX1_tellOfCaptain_63 : decode cX1_tellOfCaptain 63 = .ok (.invokevirtual 250, 3) := by decide +kernel
theorem dX1_tellOfCaptain_66 : decode cX1_tellOfCaptain 66 = .ok (.ireturn, 1) := by decide +kernel
theorem dX1_tellOfCaptain_67 : decode cX1_tellOfCaptain 67 = .ok (.iconst (-1), 1) := by decide +kernel
theorem dX1_tellOfCaptain_68 : decode cX1_tellOfCaptain 68 = .ok (.ireturn, 1) := by decide +kernel
theorem dX1_tellOfShip_0 : decode cX1_tellOfShip 0 = .ok (.iload_n 2, 1) := by decide +kernel
theorem dX1_tellOfShip_1 : decode cX1_tellOfShip 1 = .ok (.tableswitch 131 0 10 #[59, 64, 81, 86, 91, 96, 101, 106, 111, 117, 126], 59) := by decide +kernel
theorem dX1_tellOfShip_60 : decode cX1_tellOfShip 60 = .ok (.aload_n 1, 1) := by decide +kernel
theorem dX1_tellOfShip_61 : decode cX1_tellOfShip 61 = .ok (.getfield 105, 3) := by decide +kernel
theorem dX1_tellOfShip_64 : decode cX1_tellOfShip 64 = .ok (.ireturn, 1) := by decide +kernel
theorem dX1_tellOfShip_65 : decode cX1_tellOfShip 65 = .ok (.aload_n 1, 1) := by decide +kernel
theorem dX1_tellOfShip_66 : decode cX1_tellOfShip 66 = .ok (.invokevirtual 69, 3) := by decide +kernel
theorem dX1_tellOfShip_69 : decode cX1_tellOfShip 69 = .ok (.ifCond .eq 10, 3) := by decide +kernel
theorem dX1_tellOfShip_72 : decode cX1_tellOfShip 72 = .ok (.aload_n 1, 1) := by decide +kernel
theorem dX1_tellOfShip_73 : decode cX1_tellOfShip 73 = .ok (.getfield 73, 3) := by decide +kernel
theorem dX1_tellOfShip_76 : decode cX1_tellOfShip 76 = .ok (.goto 5, 3) := by decide +kernel
theorem dX1_tellOfShip_79 : decode cX1_tellOfShip 79 = .ok (.bipush (-9), 2) := by decide +kernel
theorem dX1_tellOfShip_81 : decode cX1_tellOfShip 81 = .ok (.ireturn, 1) := by decide +kernel
theorem dX1_tellOfShip_82 : decode cX1_tellOfShip 82 = .ok (.aload_n 1, 1) := by decide +kernel
theorem dX1_tellOfShip_83 : decode cX1_tellOfShip 83 = .ok (.getfield 108, 3) := by decide +kernel
theorem dX1_tellOfShip_86 : decode cX1_tellOfShip 86 = .ok (.ireturn, 1) := by decide +kernel
theorem dX1_tellOfShip_87 : decode cX1_tellOfShip 87 = .ok (.aload_n 1, 1) := by decide +kernel
theorem dX1_tellOfShip_88 : decode cX1_tellOfShip 88 = .ok (.getfield 111, 3) := by decide +kernel
theorem dX1_tellOfShip_91 : decode cX1_tellOfShip 91 = .ok (.ireturn, 1) := by decide +kernel
theorem dX1_tellOfShip_92 : decode cX1_tellOfShip 92 = .ok (.aload_n 1, 1) := by decide +kernel
theorem dX1_tellOfShip_93 : decode cX1_tellOfShip 93 = .ok (.getfield 114, 3) := by decide +kernel
theorem dX1_tellOfShip_96 : decode cX1_tellOfShip 96 = .ok (.ireturn, 1) := by decide +kernel
theorem dX1_tellOfShip_97 : decode cX1_tellOfShip 97 = .ok (.aload_n 1, 1) := by decide +kernel
theorem dX1_tellOfShip_98 : decode cX1_tellOfShip 98 = .ok (.getfield 117, 3) := by decide +kernel
theorem dX1_tellOfShip_101 : decode cX1_tellOfShip 101 = .ok (.ireturn, 1) := by decide +kernel
theorem dX1_tellOfShip_102 : decode cX1_tellOfShip 102 = .ok (.aload_n 1, 1) := by decide +kernel
theorem dX1_tellOfShip_103 : decode cX1_tellOfShip 103 = .ok (.getfield 120, 3) := by decide +kernel
theorem dX1_tellOfShip_106 : decode cX1_tellOfShip 106 = .ok (.ireturn, 1) := by decide +kernel
theorem dX1_tellOfShip_107 : decode cX1_tellOfShip 107 = .ok (.aload_n 1, 1) := by decide +kernel
theorem dX1_tellOfShip_108 : decode cX1_tellOfShip 108 = .ok (.getfield 223, 3) := by decide +kernel
theorem dX1_tellOfShip_111 : decode cX1_tellOfShip 111 = .ok (.ireturn, 1) := by decide +kernel
theorem dX1_tellOfShip_112 : decode cX1_tellOfShip 112 = .ok (.aload_n 0, 1) := by decide +kernel
theorem dX1_tellOfShip_113 : decode cX1_tellOfShip 113 = .ok (.aload_n 1, 1) := by decide +kernel
theorem dX1_tellOfShip_114 : decode cX1_tellOfShip 114 = .ok (.invokevirtual 172, 3) := by decide +kernel
theorem dX1_tellOfShip_117 : decode cX1_tellOfShip 117 = .ok (.ireturn, 1) := by decide +kernel
theorem dX1_tellOfShip_118 : decode cX1_tellOfShip 118 = .ok (.aload_n 1, 1) := by decide +kernel
theorem dX1_tellOfShip_119 : decode cX1_tellOfShip 119 = .ok (.aload_n 0, 1) := by decide +kernel
theorem dX1_tellOfShip_120 : decode cX1_tellOfShip 120 = .ok (.getfield 40, 3) := by decide +kernel
theorem dX1_tellOfShip_123 : decode cX1_tellOfShip 123 = .ok (.invokevirtual 253, 3) := by decide +kernel
theorem dX1_tellOfShip_126 : decode cX1_tellOfShip 126 = .ok (.ireturn, 1) := by decide +kernel
theorem dX1_tellOfShip_127 : decode cX1_tellOfShip 127 = .ok (.aload_n 1, 1) := by decide +kernel
theorem dX1_tellOfShip_128 : decode cX1_tellOfShip 128 = .ok (.getfield 186, 3) := by decide +kernel
theorem dX1_tellOfShip_131 : decode cX1_tellOfShip 131 = .ok (.ireturn, 1) := by decide +kernel
theorem dX1_tellOfShip_132 : decode cX1_tellOfShip 132 = .ok (.iconst (-1), 1) := by decide +kernel
theorem dX1_tellOfShip_133 : decode cX1_tellOfShip 133 = .ok (.ireturn, 1) := by decide +kernel
theorem dX2_exists_0 : decode cX2_exists 0 = .ok (.iload_n 0, 1) := by decide +kernel
theorem dX2_exists_1 : decode cX2_exists 1 = .ok (.ifCond .lt 13, 3) := by decide +kernel
theorem dX2_exists_4 : decode cX2_exists 4 = .ok (.iload_n 0, 1) := by decide +kernel
theorem dX2_exists_5 : decode cX2_exists 5 = .ok (.bipush 81, 2) := by decide +kernel
theorem dX2_exists_7 : decode cX2_exists 7 = .ok (.if_icmp .ge 7, 3) := by decide +kernel
theorem dX2_exists_10 : decode cX2_exists 10 = .ok (.iconst 1, 1) := by decide +kernel
theorem dX2_exists_11 : decode cX2_exists 11 = .ok (.goto 4, 3) := by decide +kernel
theorem dX2_exists_14 : decode cX2_exists 14 = .ok (.iconst 0, 1) := by decide +kernel
theorem dX2_exists_15 : decode cX2_exists 15 = .ok (.ireturn, 1) := by decide +kernel
theorem dX2_isDirection_0 : decode cX2_isDirection 0 = .ok (.iload_n 0, 1) := by decide +kernel
theorem dX2_isDirection_1 : decode cX2_isDirection 1 = .ok (.ifCond .lt 13, 3) := by decide +kernel
theorem dX2_isDirection_4 : decode cX2_isDirection 4 = .ok (.iload_n 0, 1) := by decide +kernel
theorem dX2_isDirection_5 : decode cX2_isDirection 5 = .ok (.bipush 6, 2) := by decide +kernel
theorem dX2_isDirection_7 : decode cX2_isDirection 7 = .ok (.if_icmp .ge 7, 3) := by decide +kernel
theorem dX2_isDirection_10 : decode cX2_isDirection 10 = .ok (.iconst 1, 1) := by decide +kernel
theorem dX2_isDirection_11 : decode cX2_isDirection 11 = .ok (.goto 4, 3) := by decide +kernel
theorem dX2_isDirection_14 : decode cX2_isDirection 14 = .ok (.iconst 0, 1) := by decide +kernel
theorem dX2_isDirection_15 : decode cX2_isDirection 15 = .ok (.ireturn, 1) := by decide +kernel
theorem dX2_next_0 : decode cX2_next 0 = .ok (.iload_n 0, 1) := by decide +kernel
theorem dX2_next_1 : decode cX2_next 1 = .ok (.invokestatic 11, 3) := by decide +kernel
theorem dX2_next_4 : decode cX2_next 4 = .ok (.ifCond .eq 10, 3) := by decide +kernel
theorem dX2_next_7 : decode cX2_next 7 = .ok (.iload_n 1, 1) := by decide +kernel
theorem dX2_next_8 : decode cX2_next 8 = .ok (.invokestatic 15, 3) := by decide +kernel
theorem dX2_next_11 : decode cX2_next 11 = .ok (.ifCond .ne 6, 3) := by decide +kernel
theorem dX2_next_14 : decode cX2_next 14 = .ok (.bipush (-9), 2) := by decide +kernel
theorem dX2_next_16 : decode cX2_next 16 = .ok (.ireturn, 1) := by decide +kernel
theorem dX2_next_17 : decode cX2_next 17 = .ok (.iload_n 0, 1) := by decide +kernel
theorem dX2_next_18 : decode cX2_next 18 = .ok (.bipush 9, 2) := by decide +kernel
theorem dX2_next_20 : decode cX2_next 20 = .ok (.idiv, 1) := by decide +kernel
theorem dX2_next_21 : decode cX2_next 21 = .ok (.iload_n 1, 1) := by decide +kernel
theorem dX2_next_22 : decode cX2_next 22 = .ok (.invokestatic 18, 3) := by decide +kernel
theorem dX2_next_25 : decode cX2_next 25 = .ok (.iadd, 1) := by decide +kernel
theorem dX2_next_26 : decode cX2_next 26 = .ok (.istore_n 2, 1) := by decide +kernel
theorem dX2_next_27 : decode cX2_next 27 = .ok (.iload_n 0, 1) := by decide +kernel
theorem dX2_next_28 : decode cX2_next 28 = .ok (.bipush 9, 2) := by decide +kernel
theorem dX2_next_30 : decode cX2_next 30 = .ok (.irem, 1) := by decide +kernel
theorem dX2_next_31 : decode cX2_next 31 = .ok (.iload_n 1, 1) := by decide +kernel
theorem dX2_next_32 : decode cX2_next 32 = .ok (.invokestatic 22, 3) := by decide +kernel
theorem dX2_next_35 : decode cX2_next 35 = .ok (.iadd, 1) := by decide +kernel
theorem dX2_next_36 : decode cX2_next 36 = .ok (.istore_n 3, 1) := by decide +kernel
theorem dX2_next_37 : decode cX2_next 37 = .ok (.iload_n 2, 1) := by decide +kernel
theorem dX2_next_38 : decode cX2_next 38 = .ok (.ifCond .lt 23, 3) := by decide +kernel
theorem dX2_next_41 : decode cX2_next 41 = .ok (.iload_n 2, 1) := by decide +kernel
theorem dX2_next_42 : decode cX2_next 42 = .ok (.bipush 9, 2) := by decide +kernel
theorem dX2_next_44 : decode cX2_next 44 = .ok (.if_icmp .ge 17, 3) := by decide +kernel
theorem dX2_next_47 : decode cX2_next 47 = .ok (.iload_n 3, 1) := by decide +kernel
theorem dX2_next_48 : decode cX2_next 48 = .ok (.ifCond .lt 13, 3) := by decide +kernel
theorem dX2_next_51 : decode cX2_next 51 = .ok (.iload_n 3, 1) := by decide +kernel
theorem dX2_next_52 : decode cX2_next 52 = .ok (.bipush 9, 2) := by decide +kernel
theorem dX2_next_54 : decode cX2_next 54 = .ok (.if_icmp .ge 7, 3) := by decide +kernel
theorem dX2_next_57 : decode cX2_next 57 = .ok (.iconst 1, 1) := by decide +kernel
theorem dX2_next_58 : decode cX2_next 58 = .ok (.goto 4, 3) := by decide +kernel
theorem dX2_next_61 : decode cX2_next 61 = .ok (.iconst 0, 1) := by decide +kernel
theorem dX2_next_62 : decode cX2_next 62 = .ok (.istore 4, 2) := by decide +kernel
theorem dX2_next_64 : decode cX2_next 64 = .ok (.iload 4, 2) := by decide +kernel
theorem dX2_next_66 : decode cX2_next 66 = .ok (.ifCond .eq 12, 3) := by decide +kernel
theorem dX2_next_69 : decode cX2_next 69 = .ok (.iload_n 2, 1) := by decide +kernel
theorem dX2_next_70 : decode cX2_next 70 = .ok (.bipush 9, 2) := by decide +kernel
theorem dX2_next_72 : decode cX2_next 72 = .ok (.imul, 1) := by decide +kernel
theorem dX2_next_73 : decode cX2_next 73 = .ok (.iload_n 3, 1) := by decide +kernel
theorem dX2_next_74 : decode cX2_next 74 = .ok (.iadd, 1) := by decide +kernel
theorem dX2_next_75 : decode cX2_next 75 = .ok (.goto 5, 3) := by decide +kernel
theorem dX2_next_78 : decode cX2_next 78 = .ok (.bipush (-9), 2) := by decide +kernel
theorem dX2_next_80 : decode cX2_next 80 = .ok (.ireturn, 1) := by decide +kernel
theorem dX2_areNeighbors_0 : decode cX2_areNeighbors 0 = .ok (.iconst 0, 1) := by decide +kernel
theorem dX2_areNeighbors_1 : decode cX2_areNeighbors 1 = .ok (.istore_n 2, 1) := by decide +kernel
theorem dX2_areNeighbors_2 : decode cX2_areNeighbors 2 = .ok (.iload_n 2, 1) := by decide +kernel
theorem dX2_areNeighbors_3 : decode cX2_areNeighbors 3 = .ok (.bipush 6, 2) := by decide +kernel
theorem dX2_areNeighbors_5 : decode cX2_areNeighbors 5 = .ok (.if_icmp .ge 27, 3) := by decide +kernel
theorem dX2_areNeighbors_8 : decode cX2_areNeighbors 8 = .ok (.iload_n 1, 1) := by decide +kernel
theorem dX2_areNeighbors_9 : decode cX2_areNeighbors 9 = .ok (.invokestatic 11, 3) := by decide +kernel
theorem dX2_areNeighbors_12 : decode cX2_areNeighbors 12 = .ok (.ifCond .eq 14, 3) := by decide +kernel
theorem dX2_areNeighbors_15 : decode cX2_areNeighbors 15 = .ok (.iload_n 0, 1) := by decide +kernel
theorem dX2_areNeighbors_16 : decode cX2_areNeighbors 16 = .ok (.iload_n 2, 1) := by decide +kernel
theorem dX2_areNeighbors_17 : decode cX2_areNeighbors 17 = .ok (.invokestatic 25, 3) := by decide +kernel
theorem dX2_areNeighbors_20 : decode cX2_areNeighbors 20 = .ok (.iload_n 1, 1) := by decide +kernel
theorem dX2_areNeighbors_21 : decode cX2_areNeighbors 21 = .ok (.if_icmp .ne 5, 3) := by decide +kernel
theorem dX2_areNeighbors_24 : decode cX2_areNeighbors 24 = .ok (.iconst 1, 1) := by decide +kernel
theorem dX2_areNeighbors_25 : decode cX2_areNeighbors 25 = .ok (.ireturn, 1) := by decide +kernel
theorem dX2_areNeighbors_26 : decode cX2_areNeighbors 26 = .ok (.iinc 2 1, 3) := by decide +kernel
theorem dX2_areNeighbors_29 : decode cX2_areNeighbors 29 = .ok (.goto (-27), 3) := by decide +kernel
theorem dX2_areNeighbors_32 : decode cX2_areNeighbors 32 = .ok (.iconst 0, 1) := by decide +kernel
theorem dX2_areNeighbors_33 : decode cX2_areNeighbors 33 = .ok (.ireturn, 1) := by decide +kernel
theorem dX2_rowStep_0 : decode cX2_rowStep 0 = .ok (.iload_n 0, 1) := by decide +kernel
theorem dX2_rowStep_1 : decode cX2_rowStep 1 = .ok (.iconst 1, 1) := by decide +kernel
theorem dX2_rowStep_2 : decode cX2_rowStep 2 = .ok (.if_icmp .eq 8, 3) := by decide +kernel
theorem dX2_rowStep_5 : decode cX2_rowStep 5 = .ok (.iload_n 0, 1) := by decide +kernel
theorem dX2_rowStep_6 : decode cX2_rowStep 6 = .ok (.iconst 2, 1) := by decide +kernel
theorem dX2_rowStep_7 : decode cX2_rowStep 7 = .ok (.if_icmp .ne 5, 3) := by decide +kernel
theorem dX2_rowStep_10 : decode cX2_rowStep 10 = .ok (.iconst 1, 1) := by decide +kernel
theorem dX2_rowStep_11 : decode cX2_rowStep 11 = .ok (.ireturn, 1) := by decide +kernel
theorem dX2_rowStep_12 : decode cX2_rowStep 12 = .ok (.iload_n 0, 1) := by decide +kernel
theorem dX2_rowStep_13 : decode cX2_rowStep 13 = .ok (.iconst 4, 1) := by decide +kernel
theorem dX2_rowStep_14 : decode cX2_rowStep 14 = .ok (.if_icmp .eq 8, 3) := by decide +kernel
theorem dX2_rowStep_17 : decode cX2_rowStep 17 = .ok (.iload_n 0, 1) := by decide +kernel
theorem dX2_rowStep_18 : decode cX2_rowStep 18 = .ok (.iconst 5, 1) := by decide +kernel
theorem dX2_rowStep_19 : decode cX2_rowStep 19 = .ok (.if_icmp .ne 7, 3) := by decide +kernel
theorem dX2_rowStep_22 : decode cX2_rowStep 22 = .ok (.iconst (-1), 1) := by decide +kernel
theorem dX2_rowStep_23 : decode cX2_rowStep 23 = .ok (.goto 4, 3) := by decide +kernel
theorem dX2_rowStep_26 : decode cX2_rowStep 26 = .ok (.iconst 0, 1) := by decide +kernel
theorem dX2_rowStep_27 : decode cX2_rowStep 27 = .ok (.ireturn, 1) := by decide +kernel
theorem dX2_columnStep_0 : decode cX2_columnStep 0 = .ok (.iload_n 0, 1) := by decide +kernel
theorem dX2_columnStep_1 : decode cX2_columnStep 1 = .ok (.ifCond .eq 8, 3) := by decide +kernel
theorem dX2_columnStep_4 : decode cX2_columnStep 4 = .ok (.iload_n 0, 1) := by decide +kernel
theorem dX2_columnStep_5 : decode cX2_columnStep 5 = .ok (.iconst 5, 1) := by decide +kernel
theorem dX2_columnStep_6 : decode cX2_columnStep 6 = .ok (.if_icmp .ne 5, 3) := by decide +kernel
theorem dX2_columnStep_9 : decode cX2_columnStep 9 = .ok (.iconst 1, 1) := by decide +kernel
theorem dX2_columnStep_10 : decode cX2_columnStep 10 = .ok (.ireturn, 1) := by decide +kernel
theorem dX2_columnStep_11 : decode cX2_columnStep 11 = .ok (.iload_n 0, 1) := by decide +kernel
theorem dX2_columnStep_12 : decode cX2_columnStep 12 = .ok (.iconst 2, 1) := by decide +kernel
theorem dX2_columnStep_13 : decode cX2_columnStep 13 = .ok (.if_icmp .eq 8, 3) := by decide +kernel
theorem dX2_columnStep_16 : decode cX2_columnStep 16 = .ok (.iload_n 0, 1) := by decide +kernel
theorem dX2_columnStep_17 : decode cX2_columnStep 17 = .ok (.iconst 3, 1) := by decide +kernel
theorem dX2_columnStep_18 : decode cX2_columnStep 18 = .ok (.if_icmp .ne 7, 3) := by decide +kernel
theorem dX2_columnStep_21 : decode cX2_columnStep 21 = .ok (.iconst (-1), 1) := by decide +kernel
theorem dX2_columnStep_22 : decode cX2_columnStep 22 = .ok (.goto 4, 3) := by decide +kernel
theorem dX2_columnStep_25 : decode cX2_columnStep 25 = .ok (.iconst 0, 1) := by decide +kernel
theorem dX2_columnStep_26 : decode cX2_columnStep 26 = .ok (.ireturn, 1) := by decide +kernel
theorem dX3_init_0 : decode cX3_init 0 = .ok (.aload_n 0, 1) := by decide +kernel
theorem dX3_init_1 : decode cX3_init 1 = .ok (.invokespecial 3, 3) := by decide +kernel
theorem dX3_init_4 : decode cX3_init 4 = .ok (.aload_n 0, 1) := by decide +kernel
theorem dX3_init_5 : decode cX3_init 5 = .ok (.bipush 6, 2) := by decide +kernel
theorem dX3_init_7 : decode cX3_init 7 = .ok (.anewarray 11, 3) := by decide +kernel
theorem dX3_init_10 : decode cX3_init 10 = .ok (.putfield 13, 3) := by decide +kernel
theorem dX3_init_13 : decode cX3_init 13 = .ok (.aload_n 0, 1) := by decide +kernel
theorem dX3_init_14 : decode cX3_init 14 = .ok (.new 11, 3) := by decide +kernel
theorem dX3_init_17 : decode cX3_init 17 = .ok (.dup, 1) := by decide +kernel
theorem dX3_init_18 : decode cX3_init 18 = .ok (.invokespecial 17, 3) := by decide +kernel
theorem dX3_init_21 : decode cX3_init 21 = .ok (.putfield 18, 3) := by decide +kernel
theorem dX3_init_24 : decode cX3_init 24 = .ok (.iconst 0, 1) := by decide +kernel
theorem dX3_init_25 : decode cX3_init 25 = .ok (.istore_n 1, 1) := by decide +kernel
theorem dX3_init_26 : decode cX3_init 26 = .ok (.iload_n 1, 1) := by decide +kernel
theorem dX3_init_27 : decode cX3_init 27 = .ok (.aload_n 0, 1) := by decide +kernel
theorem dX3_init_28 : decode cX3_init 28 = .ok (.getfield 13, 3) := by decide +kernel
theorem dX3_init_31 : decode cX3_init 31 = .ok (.arraylength, 1) := by decide +kernel
theorem dX3_init_32 : decode cX3_init 32 = .ok (.if_icmp .ge 22, 3) := by decide +kernel
theorem dX3_init_35 : decode cX3_init 35 = .ok (.aload_n 0, 1) := by decide +kernel
theorem dX3_init_36 : decode cX3_init 36 = .ok (.getfield 13, 3) := by decide +kernel
theorem dX3_init_39 : decode cX3_init 39 = .ok (.iload_n 1, 1) := by decide +kernel
theorem dX3_init_40 : decode cX3_init 40 = .ok (.new 11, 3) := by decide +kernel
theorem dX3_init_43 : decode cX3_init 43 = .ok (.dup, 1) := by decide +kernel
theorem dX3_init_44 : decode cX3_init 44 = .ok (.invokespecial 17, 3) := by decide +kernel
theorem dX3_init_47 : decode cX3_init 47 = .ok (.aastore, 1) := by decide +kernel
theorem dX3_init_48 : decode cX3_init 48 = .ok (.iinc 1 1, 3) := by decide +kernel
theorem dX3_init_51 : decode cX3_init 51 = .ok (.goto (-25), 3) := by decide +kernel
theorem dX3_init_54 : decode cX3_init 54 = .ok (.return_, 1) := by decide +kernel
theorem dX3_size_0 : decode cX3_size 0 = .ok (.aload_n 0, 1) := by decide +kernel
theorem dX3_size_1 : decode cX3_size 1 = .ok (.getfield 22, 3) := by decide +kernel
theorem dX3_size_4 : decode cX3_size 4 = .ok (.ireturn, 1) := by decide +kernel
theorem dX3_keepAside_0 : decode cX3_keepAside 0 = .ok (.aload_n 0, 1) := by decide +kernel
theorem dX3_keepAside_1 : decode cX3_keepAside 1 = .ok (.getfield 18, 3) := by decide +kernel
theorem dX3_keepAside_4 : decode cX3_keepAside 4 = .ok (.aload_n 1, 1) := by decide +kernel
theorem dX3_keepAside_5 : decode cX3_keepAside 5 = .ok (.invokevirtual 26, 3) := by decide +kernel
theorem dX3_keepAside_8 : decode cX3_keepAside 8 = .ok (.return_, 1) := by decide +kernel
theorem dX3_settle_0 : decode cX3_settle 0 = .ok (.iload_n 1, 1) := by decide +kernel
theorem dX3_settle_1 : decode cX3_settle 1 = .ok (.ifCond .ge 5, 3) := by decide +kernel
theorem dX3_settle_4 : decode cX3_settle 4 = .ok (.iload_n 1, 1) := by decide +kernel
theorem dX3_settle_5 : decode cX3_settle 5 = .ok (.ireturn, 1) := by decide +kernel
theorem dX3_settle_6 : decode cX3_settle 6 = .ok (.aload_n 0, 1) := by decide +kernel
theorem dX3_settle_7 : decode cX3_settle 7 = .ok (.getfield 13, 3) := by decide +kernel
theorem dX3_settle_10 : decode cX3_settle 10 = .ok (.iconst 5, 1) := by decide +kernel
theorem dX3_settle_11 : decode cX3_settle 11 = .ok (.aaload, 1) := by decide +kernel
theorem dX3_settle_12 : decode cX3_settle 12 = .ok (.astore_n 2, 1) := by decide +kernel
theorem dX3_settle_13 : decode cX3_settle 13 = .ok (.iconst 5, 1) := by decide +kernel
theorem dX3_settle_14 : decode cX3_settle 14 = .ok (.istore_n 3, 1) := by decide +kernel
theorem dX3_settle_15 : decode cX3_settle 15 = .ok (.iload_n 3, 1) := by decide +kernel
theorem dX3_settle_16 : decode cX3_settle 16 = .ok (.ifCond .le 23, 3) := by decide +kernel
theorem dX3_settle_19 : decode cX3_settle 19 = .ok (.aload_n 0, 1) := by decide +kernel
theorem dX3_settle_20 : decode cX3_settle 20 = .ok (.getfield 13, 3) := by decide +kernel
theorem dX3_settle_23 : decode cX3_settle 23 = .ok (.iload_n 3, 1) := by decide +kernel
theorem dX3_settle_24 : decode cX3_settle 24 = .ok (.aload_n 0, 1) := by decide +kernel
theorem dX3_settle_25 : decode cX3_settle 25 = .ok (.getfield 13, 3) := by decide +kernel
theorem dX3_settle_28 : decode cX3_settle 28 = .ok (.iload_n 3, 1) := by decide +kernel
theorem dX3_settle_29 : decode cX3_settle 29 = .ok (.iconst 1, 1) := by decide +kernel
theorem dX3_settle_30 : decode cX3_settle 30 = .ok (.isub, 1) := by decide +kernel
theorem dX3_settle_31 : decode cX3_settle 31 = .ok (.aaload, 1) := by decide +kernel
theorem dX3_settle_32 : decode cX3_settle 32 = .ok (.aastore, 1) := by decide +kernel
theorem dX3_settle_33 : decode cX3_settle 33 = .ok (.iinc 3 (-1), 3) := by decide +kernel
theorem dX3_settle_36 : decode cX3_settle 36 = .ok (.goto (-21), 3) := by decide +kernel
theorem dX3_settle_39 : decode cX3_settle 39 = .ok (.aload_n 0, 1) := by decide +kernel
theorem dX3_settle_40 : decode cX3_settle 40 = .ok (.getfield 13, 3) := by decide +kernel
theorem dX3_settle_43 : decode cX3_settle 43 = .ok (.iconst 0, 1) := by decide +kernel
theorem dX3_settle_44 : decode cX3_settle 44 = .ok (.aload_n 0, 1) := by decide +kernel
theorem dX3_settle_45 : decode cX3_settle 45 = .ok (.getfield 18, 3) := by decide +kernel
theorem dX3_settle_48 : decode cX3_settle 48 = .ok (.aastore, 1) := by decide +kernel
theorem dX3_settle_49 : decode cX3_settle 49 = .ok (.aload_n 0, 1) := by decide +kernel
theorem dX3_settle_50 : decode cX3_settle 50 = .ok (.aload_n 2, 1) := by decide +kernel
theorem dX3_settle_51 : decode cX3_settle 51 = .ok (.putfield 18, 3) := by decide +kernel
theorem dX3_settle_54 : decode cX3_settle 54 = .ok (.aload_n 0, 1) := by decide +kernel
theorem dX3_settle_55 : decode cX3_settle 55 = .ok (.aload_n 0, 1) := by decide +kernel
theorem dX3_settle_56 : decode cX3_settle 56 = .ok (.getfield 22, 3) := by decide +kernel
theorem dX3_settle_59 : decode cX3_settle 59 = .ok (.iconst 1, 1) := by decide +kernel
theorem dX3_settle_60 : decode cX3_settle 60 = .ok (.iadd, 1) := by decide +kernel
theorem dX3_settle_61 : decode cX3_settle 61 = .ok (.bipush 6, 2) := by decide +kernel
theorem dX3_settle_63 : decode cX3_settle 63 = .ok (.invokestatic 30, 3) := by decide +kernel
theorem dX3_settle_66 : decode cX3_settle 66 = .ok (.putfield 22, 3) := by decide +kernel
theorem dX3_settle_69 : decode cX3_settle 69 = .ok (.iload_n 1, 1) := by decide +kernel
theorem dX3_settle_70 : decode cX3_settle 70 = .ok (.ireturn, 1) := by decide +kernel
theorem dX3_stepBack_0 : decode cX3_stepBack 0 = .ok (.aload_n 0, 1) := by decide +kernel
theorem dX3_stepBack_1 : decode cX3_stepBack 1 = .ok (.getfield 22, 3) := by decide +kernel
theorem dX3_stepBack_4 : decode cX3_stepBack 4 = .ok (.ifCond .ne 6, 3) := by decide +kernel
theorem dX3_stepBack_7 : decode cX3_stepBack 7 = .ok (.bipush (-2), 2) := by decide +kernel
theorem dX3_stepBack_9 : decode cX3_stepBack 9 = .ok (.ireturn, 1) := by decide +kernel
theorem dX3_stepBack_10 : decode cX3_stepBack 10 = .ok (.aload_n 0, 1) := by decide +kernel
theorem dX3_stepBack_11 : decode cX3_stepBack 11 = .ok (.getfield 13, 3) := by decide +kernel
theorem dX3_stepBack_14 : decode cX3_stepBack 14 = .ok (.iconst 0, 1) := by decide +kernel
theorem dX3_stepBack_15 : decode cX3_stepBack 15 = .ok (.aaload, 1) := by decide +kernel
theorem dX3_stepBack_16 : decode cX3_stepBack 16 = .ok (.astore_n 2, 1) := by decide +kernel
theorem dX3_stepBack_17 : decode cX3_stepBack 17 = .ok (.aload_n 1, 1) := by decide +kernel
theorem dX3_stepBack_18 : decode cX3_stepBack 18 = .ok (.aload_n 2, 1) := by decide +kernel
theorem dX3_stepBack_19 : decode cX3_stepBack 19 = .ok (.invokevirtual 26, 3) := by decide +kernel
theorem dX3_stepBack_22 : decode cX3_stepBack 22 = .ok (.iconst 0, 1) := by decide +kernel
theorem dX3_stepBack_23 : decode cX3_stepBack 23 = .ok (.istore_n 3, 1) := by decide +kernel
theorem dX3_stepBack_24 : decode cX3_stepBack 24 = .ok (.iload_n 3, 1) := by decide +kernel
theorem dX3_stepBack_25 : decode cX3_stepBack 25 = .ok (.iconst 5, 1) := by decide +kernel
theorem dX3_stepBack_26 : decode cX3_stepBack 26 = .ok (.if_icmp .ge 23, 3) := by decide +kernel
theorem dX3_stepBack_29 : decode cX3_stepBack 29 = .ok (.aload_n 0, 1) := by decide +kernel
theorem dX3_stepBack_30 : decode cX3_stepBack 30 = .ok (.getfield 13, 3) := by decide +kernel
theorem dX3_stepBack_33 : decode cX3_stepBack 33 = .ok (.iload_n 3, 1) := by decide +kernel
theorem dX3_stepBack_34 : decode cX3_stepBack 34 = .ok (.aload_n 0, 1) := by decide +kernel
theorem dX3_stepBack_35 : decode cX3_stepBack 35 = .ok (.getfield 13, 3) := by decide +kernel
theorem dX3_stepBack_38 : decode cX3_stepBack 38 = .ok (.iload_n 3, 1) := by decide +kernel
theorem dX3_stepBack_39 : decode cX3_stepBack 39 = .ok (.iconst 1, 1) := by decide +kernel
theorem dX3_stepBack_40 : decode cX3_stepBack 40 = .ok (.iadd, 1) := by decide +kernel
theorem dX3_stepBack_41 : decode cX3_stepBack 41 = .ok (.aaload, 1) := by decide +kernel
theorem dX3_stepBack_42 : decode cX3_stepBack 42 = .ok (.aastore, 1) := by decide +kernel
theorem dX3_stepBack_43 : decode cX3_stepBack 43 = .ok (.iinc 3 1, 3) := by decide +kernel
theorem dX3_stepBack_46 : decode cX3_stepBack 46 = .ok (.goto (-22), 3) := by decide +kernel
theorem dX3_stepBack_49 : decode cX3_stepBack 49 = .ok (.aload_n 0, 1) := by decide +kernel
theorem dX3_stepBack_50 : decode cX3_stepBack 50 = .ok (.getfield 13, 3) := by decide +kernel
theorem dX3_stepBack_53 : decode cX3_stepBack 53 = .ok (.iconst 5, 1) := by decide +kernel
theorem dX3_stepBack_54 : decode cX3_stepBack 54 = .ok (.aload_n 2, 1) := by decide +kernel
theorem dX3_stepBack_55 : decode cX3_stepBack 55 = .ok (.aastore, 1) := by decide +kernel
theorem dX3_stepBack_56 : decode cX3_stepBack 56 = .ok (.aload_n 0, 1) := by decide +kernel
theorem dX3_stepBack_57 : decode cX3_stepBack 57 = .ok (.dup, 1) := by decide +kernel
theorem dX3_stepBack_58 : decode cX3_stepBack 58 = .ok (.getfield 22, 3) := by decide +kernel
theorem dX3_stepBack_61 : decode cX3_stepBack 61 = .ok (.iconst 1, 1) := by decide +kernel
theorem dX3_stepBack_62 : decode cX3_stepBack 62 = .ok (.isub, 1) := by decide +kernel
theorem dX3_stepBack_63 : decode cX3_stepBack 63 = .ok (.putfield 22, 3) := by decide +kernel
theorem dX3_stepBack_66 : decode cX3_stepBack 66 = .ok (.aload_n 0, 1) := by decide +kernel
theorem dX3_stepBack_67 : decode cX3_stepBack 67 = .ok (.getfield 22, 3) := by decide +kernel
theorem dX3_stepBack_70 : decode cX3_stepBack 70 = .ok (.ireturn, 1) := by decide +kernel
theorem dX4_init_0 : decode cX4_init 0 = .ok (.aload_n 0, 1) := by decide +kernel
theorem dX4_init_1 : decode cX4_init 1 = .ok (.invokespecial 3, 3) := by decide +kernel
theorem dX4_init_4 : decode cX4_init 4 = .ok (.aload_n 0, 1) := by decide +kernel
theorem dX4_init_5 : decode cX4_init 5 = .ok (.bipush 100, 2) := by decide +kernel
theorem dX4_init_7 : decode cX4_init 7 = .ok (.newarray .int, 2) := by decide +kernel
theorem dX4_init_9 : decode cX4_init 9 = .ok (.putfield 11, 3) := by decide +kernel
theorem dX4_init_12 : decode cX4_init 12 = .ok (.return_, 1) := by decide +kernel
theorem dX4_length_0 : decode cX4_length 0 = .ok (.aload_n 0, 1) := by decide +kernel
theorem dX4_length_1 : decode cX4_length 1 = .ok (.getfield 15, 3) := by decide +kernel
theorem dX4_length_4 : decode cX4_length 4 = .ok (.ireturn, 1) := by decide +kernel
theorem dX5_isPath_0 : decode cX5_isPath 0 = .ok (.iload_n 0, 1) := by decide +kernel
theorem dX5_isPath_1 : decode cX5_isPath 1 = .ok (.ifCond .le 9, 3) := by decide +kernel
theorem dX5_isPath_4 : decode cX5_isPath 4 = .ok (.iload_n 0, 1) := by decide +kernel
theorem dX5_isPath_5 : decode cX5_isPath 5 = .ok (.ldc 9, 2) := by decide +kernel
theorem dX5_isPath_7 : decode cX5_isPath 7 = .ok (.if_icmp .le 5, 3) := by decide +kernel
theorem dX5_isPath_10 : decode cX5_isPath 10 = .ok (.iconst 0, 1) := by decide +kernel
theorem dX5_isPath_11 : decode cX5_isPath 11 = .ok (.ireturn, 1) := by decide +kernel
theorem dX5_isPath_12 : decode cX5_isPath 12 = .ok (.iload_n 0, 1) := by decide +kernel
theorem dX5_isPath_13 : decode cX5_isPath 13 = .ok (.istore_n 1, 1) := by decide +kernel
theorem dX5_isPath_14 : decode cX5_isPath 14 = .ok (.iload_n 1, 1) := by decide +kernel
theorem dX5_isPath_15 : decode cX5_isPath 15 = .ok (.ifCond .le 28, 3) := by decide +kernel
theorem dX5_isPath_18 : decode cX5_isPath 18 = .ok (.iload_n 1, 1) := by decide +kernel
theorem dX5_isPath_19 : decode cX5_isPath 19 = .ok (.bipush 10, 2) := by decide +kernel
theorem dX5_isPath_21 : decode cX5_isPath 21 = .ok (.irem, 1) := by decide +kernel
theorem dX5_isPath_22 : decode cX5_isPath 22 = .ok (.istore_n 2, 1) := by decide +kernel
theorem dX5_isPath_23 : decode cX5_isPath 23 = .ok (.iload_n 2, 1) := by decide +kernel
theorem dX5_isPath_24 : decode cX5_isPath 24 = .ok (.iconst 1, 1) := by decide +kernel
theorem dX5_isPath_25 : decode cX5_isPath 25 = .ok (.if_icmp .lt 8, 3) := by decide +kernel
theorem dX5_isPath_28 : decode cX5_isPath 28 = .ok (.iload_n 2, 1) := by decide +kernel
theorem dX5_isPath_29 : decode cX5_isPath 29 = .ok (.iconst 3, 1) := by decide +kernel
theorem dX5_isPath_30 : decode cX5_isPath 30 = .ok (.if_icmp .le 5, 3) := by decide +kernel
theorem dX5_isPath_33 : decode cX5_isPath 33 = .ok (.iconst 0, 1) := by decide +kernel
theorem dX5_isPath_34 : decode cX5_isPath 34 = .ok (.ireturn, 1) := by decide +kernel
theorem dX5_isPath_35 : decode cX5_isPath 35 = .ok (.iload_n 1, 1) := by decide +kernel
theorem dX5_isPath_36 : decode cX5_isPath 36 = .ok (.bipush 10, 2) := by decide +kernel
theorem dX5_isPath_38 : decode cX5_isPath 38 = .ok (.idiv, 1) := by decide +kernel
theorem dX5_isPath_39 : decode cX5_isPath 39 = .ok (.istore_n 1, 1) := by decide +kernel
theorem dX5_isPath_40 : decode cX5_isPath 40 = .ok (.goto (-26), 3) := by decide +kernel
theorem dX5_isPath_43 : decode cX5_isPath 43 = .ok (.iconst 1, 1) := by decide +kernel
theorem dX5_isPath_44 : decode cX5_isPath 44 = .ok (.ireturn, 1) := by decide +kernel
theorem dX5_stepsOf_0 : decode cX5_stepsOf 0 = .ok (.iconst 0, 1) := by decide +kernel
theorem dX5_stepsOf_1 : decode cX5_stepsOf 1 = .ok (.istore_n 1, 1) := by decide +kernel
theorem dX5_stepsOf_2 : decode cX5_stepsOf 2 = .ok (.iload_n 0, 1) := by decide +kernel
theorem dX5_stepsOf_3 : decode cX5_stepsOf 3 = .ok (.istore_n 2, 1) := by decide +kernel
theorem dX5_stepsOf_4 : decode cX5_stepsOf 4 = .ok (.iload_n 2, 1) := by decide +kernel
theorem dX5_stepsOf_5 : decode cX5_stepsOf 5 = .ok (.ifCond .le 14, 3) := by decide +kernel
theorem dX5_stepsOf_8 : decode cX5_stepsOf 8 = .ok (.iinc 1 1, 3) := by decide +kernel
theorem dX5_stepsOf_11 : decode cX5_stepsOf 11 = .ok (.iload_n 2, 1) := by decide +kernel
theorem dX5_stepsOf_12 : decode cX5_stepsOf 12 = .ok (.bipush 10, 2) := by decide +kernel
theorem dX5_stepsOf_14 : decode cX5_stepsOf 14 = .ok (.idiv, 1) := by decide +kernel
theorem dX5_stepsOf_15 : decode cX5_stepsOf 15 = .ok (.istore_n 2, 1) := by decide +kernel
theorem dX5_stepsOf_16 : decode cX5_stepsOf 16 = .ok (.goto (-12), 3) := by decide +kernel
theorem dX5_stepsOf_19 : decode cX5_stepsOf 19 = .ok (.iload_n 1, 1) := by decide +kernel
theorem dX5_stepsOf_20 : decode cX5_stepsOf 20 = .ok (.ireturn, 1) := by decide +kernel
theorem dX5_unitOf_0 : decode cX5_unitOf 0 = .ok (.iconst 1, 1) := by decide +kernel
theorem dX5_unitOf_1 : decode cX5_unitOf 1 = .ok (.istore_n 1, 1) := by decide +kernel
theorem dX5_unitOf_2 : decode cX5_unitOf 2 = .ok (.iload_n 0, 1) := by decide +kernel
theorem dX5_unitOf_3 : decode cX5_unitOf 3 = .ok (.bipush 10, 2) := by decide +kernel
theorem dX5_unitOf_5 : decode cX5_unitOf 5 = .ok (.idiv, 1) := by decide +kernel
theorem dX5_unitOf_6 : decode cX5_unitOf 6 = .ok (.istore_n 2, 1) := by decide +kernel
theorem dX5_unitOf_7 : decode cX5_unitOf 7 = .ok (.iload_n 2, 1) := by decide +kernel
theorem dX5_unitOf_8 : decode cX5_unitOf 8 = .ok (.ifCond .le 16, 3) := by decide +kernel
theorem dX5_unitOf_11 : decode cX5_unitOf 11 = .ok (.iload_n 1, 1) := by decide +kernel
theorem dX5_unitOf_12 : decode cX5_unitOf 12 = .ok (.bipush 10, 2) := by decide +kernel
theorem dX5_unitOf_14 : decode cX5_unitOf 14 = .ok (.imul, 1) := by decide +kernel
theorem dX5_unitOf_15 : decode cX5_unitOf 15 = .ok (.istore_n 1, 1) := by decide +kernel
theorem dX5_unitOf_16 : decode cX5_unitOf 16 = .ok (.iload_n 2, 1) := by decide +kernel
theorem dX5_unitOf_17 : decode cX5_unitOf 17 = .ok (.bipush 10, 2) := by decide +kernel
theorem dX5_unitOf_19 : decode cX5_unitOf 19 = .ok (.idiv, 1) := by decide +kernel
theorem dX5_unitOf_20 : decode cX5_unitOf 20 = .ok (.istore_n 2, 1) := by decide +kernel
theorem dX5_unitOf_21 : decode cX5_unitOf 21 = .ok (.goto (-14), 3) := by decide +kernel
theorem dX5_unitOf_24 : decode cX5_unitOf 24 = .ok (.iload_n 1, 1) := by decide +kernel
theorem dX5_unitOf_25 : decode cX5_unitOf 25 = .ok (.ireturn, 1) := by decide +kernel
theorem dX5_turned_0 : decode cX5_turned 0 = .ok (.iload_n 1, 1) := by decide +kernel
theorem dX5_turned_1 : decode cX5_turned 1 = .ok (.iconst 2, 1) := by decide +kernel
theorem dX5_turned_2 : decode cX5_turned 2 = .ok (.if_icmp .ne 16, 3) := by decide +kernel
theorem dX5_turned_5 : decode cX5_turned 5 = .ok (.iload_n 0, 1) := by decide +kernel
theorem dX5_turned_6 : decode cX5_turned 6 = .ok (.iconst 5, 1) := by decide +kernel
theorem dX5_turned_7 : decode cX5_turned 7 = .ok (.if_icmp .ne 7, 3) := by decide +kernel
theorem dX5_turned_10 : decode cX5_turned 10 = .ok (.iconst 0, 1) := by decide +kernel
theorem dX5_turned_11 : decode cX5_turned 11 = .ok (.goto 6, 3) := by decide +kernel
theorem dX5_turned_14 : decode cX5_turned 14 = .ok (.iload_n 0, 1) := by decide +kernel
theorem dX5_turned_15 : decode cX5_turned 15 = .ok (.iconst 1, 1) := by decide +kernel
theorem dX5_turned_16 : decode cX5_turned 16 = .ok (.iadd, 1) := by decide +kernel
theorem dX5_turned_17 : decode cX5_turned 17 = .ok (.ireturn, 1) := by decide +kernel
theorem dX5_turned_18 : decode cX5_turned 18 = .ok (.iload_n 1, 1) := by decide +kernel
theorem dX5_turned_19 : decode cX5_turned 19 = .ok (.iconst 3, 1) := by decide +kernel
theorem dX5_turned_20 : decode cX5_turned 20 = .ok (.if_icmp .ne 15, 3) := by decide +kernel
theorem dX5_turned_23 : decode cX5_turned 23 = .ok (.iload_n 0, 1) := by decide +kernel
theorem dX5_turned_24 : decode cX5_turned 24 = .ok (.ifCond .ne 7, 3) := by decide +kernel
theorem dX5_turned_27 : decode cX5_turned 27 = .ok (.iconst 5, 1) := by decide +kernel
theorem dX5_turned_28 : decode cX5_turned 28 = .ok (.goto 6, 3) := by decide +kernel
theorem dX5_turned_31 : decode cX5_turned 31 = .ok (.iload_n 0, 1) := by decide +kernel
theorem dX5_turned_32 : decode cX5_turned 32 = .ok (.iconst 1, 1) := by decide +kernel
theorem dX5_turned_33 : decode cX5_turned 33 = .ok (.isub, 1) := by decide +kernel
theorem dX5_turned_34 : decode cX5_turned 34 = .ok (.ireturn, 1) := by decide +kernel
theorem dX5_turned_35 : decode cX5_turned 35 = .ok (.iload_n 0, 1) := by decide +kernel
theorem dX5_turned_36 : decode cX5_turned 36 = .ok (.ireturn, 1) := by decide +kernel
theorem dX6_init_0 : decode cX6_init 0 = .ok (.aload_n 0, 1) := by decide +kernel
theorem dX6_init_1 : decode cX6_init 1 = .ok (.invokespecial 5, 3) := by decide +kernel
theorem dX6_init_4 : decode cX6_init 4 = .ok (.aload_n 0, 1) := by decide +kernel
theorem dX6_init_5 : decode cX6_init 5 = .ok (.sipush 486, 3) := by decide +kernel
theorem dX6_init_8 : decode cX6_init 8 = .ok (.newarray .int, 2) := by decide +kernel
theorem dX6_init_10 : decode cX6_init 10 = .ok (.putfield 13, 3) := by decide +kernel
theorem dX6_init_13 : decode cX6_init 13 = .ok (.aload_n 0, 1) := by decide +kernel
theorem dX6_init_14 : decode cX6_init 14 = .ok (.sipush 486, 3) := by decide +kernel
theorem dX6_init_17 : decode cX6_init 17 = .ok (.newarray .int, 2) := by decide +kernel
theorem dX6_init_19 : decode cX6_init 19 = .ok (.putfield 17, 3) := by decide +kernel
theorem dX6_init_22 : decode cX6_init 22 = .ok (.aload_n 0, 1) := by decide +kernel
theorem dX6_init_23 : decode cX6_init 23 = .ok (.bipush 81, 2) := by decide +kernel
theorem dX6_init_25 : decode cX6_init 25 = .ok (.newarray .int, 2) := by decide +kernel
theorem dX6_init_27 : decode cX6_init 27 = .ok (.putfield 20, 3) := by decide +kernel
theorem dX6_init_30 : decode cX6_init 30 = .ok (.return_, 1) := by decide +kernel
theorem dX6_explore_0 : decode cX6_explore 0 = .ok (.aload_n 0, 1) := by decide +kernel
theorem dX6_explore_1 : decode cX6_explore 1 = .ok (.getfield 13, 3) := by decide +kernel
theorem dX6_explore_4 : decode cX6_explore 4 = .ok (.iconst (-1), 1) := by decide +kernel
theorem dX6_explore_5 : decode cX6_explore 5 = .ok (.invokestatic 23, 3) := by decide +kernel
theorem dX6_explore_8 : decode cX6_explore 8 = .ok (.aload_n 0, 1) := by decide +kernel
theorem dX6_explore_9 : decode cX6_explore 9 = .ok (.getfield 20, 3) := by decide +kernel
theorem dX6_explore_12 : decode cX6_explore 12 = .ok (.iconst (-1), 1) := by decide +kernel
theorem dX6_explore_13 : decode cX6_explore 13 = .ok (.invokestatic 23, 3) := by decide +kernel
theorem dX6_explore_16 : decode cX6_explore 16 = .ok (.aload_n 0, 1) := by decide +kernel
theorem dX6_explore_17 : decode cX6_explore 17 = .ok (.iconst 0, 1) := by decide +kernel
theorem dX6_explore_18 : decode cX6_explore 18 = .ok (.putfield 29, 3) := by decide +kernel
theorem dX6_explore_21 : decode cX6_explore 21 = .ok (.aload_n 0, 1) := by decide +kernel
theorem dX6_explore_22 : decode cX6_explore 22 = .ok (.aload_n 2, 1) := by decide +kernel
theorem dX6_explore_23 : decode cX6_explore 23 = .ok (.getfield 33, 3) := by decide +kernel
theorem dX6_explore_26 : decode cX6_explore 26 = .ok (.aload_n 2, 1) := by decide +kernel
theorem dX6_explore_27 : decode cX6_explore 27 = .ok (.getfield 38, 3) := by decide +kernel
theorem dX6_explore_30 : decode cX6_explore 30 = .ok (.iconst 0, 1) := by decide +kernel
theorem dX6_explore_31 : decode cX6_explore 31 = .ok (.invokevirtual 41, 3) := by decide +kernel
theorem dX6_explore_34 : decode cX6_explore 34 = .ok (.iconst 0, 1) := by decide +kernel
theorem dX6_explore_35 : decode cX6_explore 35 = .ok (.istore 4, 2) := by decide +kernel
theorem dX6_explore_37 : decode cX6_explore 37 = .ok (.iload 4, 2) := by decide +kernel
theorem dX6_explore_39 : decode cX6_explore 39 = .ok (.aload_n 0, 1) := by decide +kernel
theorem dX6_explore_40 : decode cX6_explore 40 = .ok (.getfield 29, 3) := by decide +kernel
theorem dX6_explore_43 : decode cX6_explore 43 = .ok (.if_icmp .ge 75, 3) := by decide +kernel
theorem dX6_explore_46 : decode cX6_explore 46 = .ok (.iload 4, 2) := by decide +kernel
theorem dX6_explore_48 : decode cX6_explore 48 = .ok (.aload_n 0, 1) := by decide +kernel
theorem dX6_explore_49 : decode cX6_explore 49 = .ok (.getfield 17, 3) := by decide +kernel
theorem dX6_explore_52 : decode cX6_explore 52 = .ok (.arraylength, 1) := by decide +kernel
theorem dX6_explore_53 : decode cX6_explore 53 = .ok (.if_icmp .ge 65, 3) := by decide +kernel
theorem dX6_explore_56 : decode cX6_explore 56 = .ok (.aload_n 0, 1) := by decide +kernel
theorem dX6_explore_57 : decode cX6_explore 57 = .ok (.getfield 17, 3) := by decide +kernel
theorem dX6_explore_60 : decode cX6_explore 60 = .ok (.iload 4, 2) := by decide +kernel
theorem dX6_explore_62 : decode cX6_explore 62 = .ok (.iaload, 1) := by decide +kernel
theorem dX6_explore_63 : decode cX6_explore 63 = .ok (.istore 5, 2) := by decide +kernel
theorem dX6_explore_65 : decode cX6_explore 65 = .ok (.iload 5, 2) := by decide +kernel
theorem dX6_explore_67 : decode cX6_explore 67 = .ok (.ifCond .lt 45, 3) := by decide +kernel
theorem dX6_explore_70 : decode cX6_explore 70 = .ok (.iload 5, 2) := by decide +kernel
theorem dX6_explore_72 : decode cX6_explore 72 = .ok (.aload_n 0, 1) := by decide +kernel
theorem dX6_explore_73 : decode cX6_explore 73 = .ok (.getfield 13, 3) := by decide +kernel
theorem dX6_explore_76 : decode cX6_explore 76 = .ok (.arraylength, 1) := by decide +kernel
theorem dX6_explore_77 : decode cX6_explore 77 = .ok (.if_icmp .ge 35, 3) := by decide +kernel
theorem dX6_explore_80 : decode cX6_explore 80 = .ok (.aload_n 0, 1) := by decide +kernel
theorem dX6_explore_81 : decode cX6_explore 81 = .ok (.getfield 13, 3) := by decide +kernel
theorem dX6_explore_84 : decode cX6_explore 84 = .ok (.iload 5, 2) := by decide +kernel
theorem dX6_explore_86 : decode cX6_explore 86 = .ok (.iaload, 1) := by decide +kernel
theorem dX6_explore_87 : decode cX6_explore 87 = .ok (.invokestatic 45, 3) := by decide +kernel
theorem dX6_explore_90 : decode cX6_explore 90 = .ok (.iload_n 3, 1) := by decide +kernel
theorem dX6_explore_91 : decode cX6_explore 91 = .ok (.if_icmp .ge 21, 3) := by decide +kernel
theorem dX6_explore_94 : decode cX6_explore 94 = .ok (.aload_n 0, 1) := by decide +kernel
theorem dX6_explore_95 : decode cX6_explore 95 = .ok (.aload_n 1, 1) := by decide +kernel
theorem dX6_explore_96 : decode cX6_explore 96 = .ok (.aload_n 2, 1) := by decide +kernel
theorem dX6_explore_97 : decode cX6_explore 97 = .ok (.iload 5, 2) := by decide +kernel
theorem dX6_explore_99 : decode cX6_explore 99 = .ok (.aload_n 0, 1) := by decide +kernel
theorem dX6_explore_100 : decode cX6_explore 100 = .ok (.getfield 13, 3) := by decide +kernel
theorem dX6_explore_103 : decode cX6_explore 103 = .ok (.iload 5, 2) := by decide +kernel
theorem dX6_explore_105 : decode cX6_explore 105 = .ok (.iaload, 1) := by decide +kernel
theorem dX6_explore_106 : decode cX6_explore 106 = .ok (.bipush 10, 2) := by decide +kernel
theorem dX6_explore_108 : decode cX6_explore 108 = .ok (.imul, 1) := by decide +kernel
theorem dX6_explore_109 : decode cX6_explore 109 = .ok (.invokevirtual 51, 3) := by decide +kernel
theorem dX6_explore_112 : decode cX6_explore 112 = .ok (.iinc 4 1, 3) := by decide +kernel
theorem dX6_explore_115 : decode cX6_explore 115 = .ok (.goto (-78), 3) := by decide +kernel
theorem dX6_explore_118 : decode cX6_explore 118 = .ok (.return_, 1) := by decide +kernel
theorem dX6_spread_0 : decode cX6_spread 0 = .ok (.iload_n 3, 1) := by decide +kernel
theorem dX6_spread_1 : decode cX6_spread 1 = .ok (.bipush 6, 2) := by decide +kernel
theorem dX6_spread_3 : decode cX6_spread 3 = .ok (.idiv, 1) := by decide +kernel
theorem dX6_spread_4 : decode cX6_spread 4 = .ok (.istore 5, 2) := by decide +kernel
theorem dX6_spread_6 : decode cX6_spread 6 = .ok (.iload_n 3, 1) := by decide +kernel
theorem dX6_spread_7 : decode cX6_spread 7 = .ok (.bipush 6, 2) := by decide +kernel
theorem dX6_spread_9 : decode cX6_spread 9 = .ok (.irem, 1) := by decide +kernel
theorem dX6_spread_10 : decode cX6_spread 10 = .ok (.istore 6, 2) := by decide +kernel
theorem dX6_spread_12 : decode cX6_spread 12 = .ok (.aload_n 0, 1) := by decide +kernel
theorem dX6_spread_13 : decode cX6_spread 13 = .ok (.aload_n 1, 1) := by decide +kernel
theorem dX6_spread_14 : decode cX6_spread 14 = .ok (.aload_n 2, 1) := by decide +kernel
theorem dX6_spread_15 : decode cX6_spread 15 = .ok (.iload 5, 2) := by decide +kernel
theorem dX6_spread_17 : decode cX6_spread 17 = .ok (.iload 6, 2) := by decide +kernel
theorem dX6_spread_19 : decode cX6_spread 19 = .ok (.invokevirtual 55, 3) := by decide +kernel
theorem dX6_spread_22 : decode cX6_spread 22 = .ok (.iload 6, 2) := by decide +kernel
theorem dX6_spread_24 : decode cX6_spread 24 = .ok (.iload 4, 2) := by decide +kernel
theorem dX6_spread_26 : decode cX6_spread 26 = .ok (.iconst 1, 1) := by decide +kernel
theorem dX6_spread_27 : decode cX6_spread 27 = .ok (.iadd, 1) := by decide +kernel
theorem dX6_spread_28 : decode cX6_spread 28 = .ok (.invokevirtual 41, 3) := by decide +kernel
theorem dX6_spread_31 : decode cX6_spread 31 = .ok (.aload_n 0, 1) := by decide +kernel
theorem dX6_spread_32 : decode cX6_spread 32 = .ok (.iload 5, 2) := by decide +kernel
theorem dX6_spread_34 : decode cX6_spread 34 = .ok (.iload 6, 2) := by decide +kernel
theorem dX6_spread_36 : decode cX6_spread 36 = .ok (.iconst 2, 1) := by decide +kernel
theorem dX6_spread_37 : decode cX6_spread 37 = .ok (.invokestatic 61, 3) := by decide +kernel
theorem dX6_spread_40 : decode cX6_spread 40 = .ok (.iload 4, 2) := by decide +kernel
theorem dX6_spread_42 : decode cX6_spread 42 = .ok (.iconst 2, 1) := by decide +kernel
theorem dX6_spread_43 : decode cX6_spread 43 = .ok (.iadd, 1) := by decide +kernel
theorem dX6_spread_44 : decode cX6_spread 44 = .ok (.invokevirtual 41, 3) := by decide +kernel
theorem dX6_spread_47 : decode cX6_spread 47 = .ok (.aload_n 0, 1) := by decide +kernel
theorem dX6_spread_48 : decode cX6_spread 48 = .ok (.iload 5, 2) := by decide +kernel
theorem dX6_spread_50 : decode cX6_spread 50 = .ok (.iload 6, 2) := by decide +kernel
theorem dX6_spread_52 : decode cX6_spread 52 = .ok (.iconst 3, 1) := by decide +kernel
theorem dX6_spread_53 : decode cX6_spread 53 = .ok (.invokestatic 61, 3) := by decide +kernel
theorem dX6_spread_56 : decode cX6_spread 56 = .ok (.iload 4, 2) := by decide +kernel
theorem dX6_spread_58 : decode cX6_spread 58 = .ok (.iconst 3, 1) := by decide +kernel
theorem dX6_spread_59 : decode cX6_spread 59 = .ok (.iadd, 1) := by decide +kernel
theorem dX6_spread_60 : decode cX6_spread 60 = .ok (.invokevirtual 41, 3) := by decide +kernel
theorem dX6_spread_63 : decode cX6_spread 63 = .ok (.return_, 1) := by decide +kernel
theorem dX6_note_0 : decode cX6_note 0 = .ok (.iload_n 1, 1) := by decide +kernel
theorem dX6_note_1 : decode cX6_note 1 = .ok (.invokestatic 65, 3) := by decide +kernel
theorem dX6_note_4 : decode cX6_note 4 = .ok (.ifCond .eq 22, 3) := by decide +kernel
theorem dX6_note_7 : decode cX6_note 7 = .ok (.iload_n 2, 1) := by decide +kernel
theorem dX6_note_8 : decode cX6_note 8 = .ok (.invokestatic 69, 3) := by decide +kernel
theorem dX6_note_11 : decode cX6_note 11 = .ok (.ifCond .eq 15, 3) := by decide +kernel
theorem dX6_note_14 : decode cX6_note 14 = .ok (.aload_n 0, 1) := by decide +kernel
theorem dX6_note_15 : decode cX6_note 15 = .ok (.getfield 29, 3) := by decide +kernel
theorem dX6_note_18 : decode cX6_note 18 = .ok (.aload_n 0, 1) := by decide +kernel
theorem dX6_note_19 : decode cX6_note 19 = .ok (.getfield 17, 3) := by decide +kernel
theorem dX6_note_22 : decode cX6_note 22 = .ok (.arraylength, 1) := by decide +kernel
theorem dX6_note_23 : decode cX6_note 23 = .ok (.if_icmp .lt 4, 3) := by decide +kernel
theorem dX6_note_26 : decode cX6_note 26 = .ok (.return_, 1) := by decide +kernel
theorem dX6_note_27 : decode cX6_note 27 = .ok (.iload_n 1, 1) := by decide +kernel
theorem dX6_note_28 : decode cX6_note 28 = .ok (.bipush 6, 2) := by decide +kernel
theorem dX6_note_30 : decode cX6_note 30 = .ok (.imul, 1) := by decide +kernel
theorem dX6_note_31 : decode cX6_note 31 = .ok (.iload_n 2, 1) := by decide +kernel
theorem dX6_note_32 : decode cX6_note 32 = .ok (.iadd, 1) := by decide +kernel
theorem dX6_note_33 : decode cX6_note 33 = .ok (.istore 4, 2) := by decide +kernel
theorem dX6_note_35 : decode cX6_note 35 = .ok (.aload_n 0, 1) := by decide +kernel
theorem dX6_note_36 : decode cX6_note 36 = .ok (.getfield 13, 3) := by decide +kernel
theorem dX6_note_39 : decode cX6_note 39 = .ok (.iload 4, 2) := by decide +kernel
theorem dX6_note_41 : decode cX6_note 41 = .ok (.iaload, 1) := by decide +kernel
theorem dX6_note_42 : decode cX6_note 42 = .ok (.iconst (-1), 1) := by decide +kernel
theorem dX6_note_43 : decode cX6_note 43 = .ok (.if_icmp .eq 4, 3) := by decide +kernel
theorem dX6_note_46 : decode cX6_note 46 = .ok (.return_, 1) := by decide +kernel
theorem dX6_note_47 : decode cX6_note 47 = .ok (.aload_n 0, 1) := by decide +kernel
theorem dX6_note_48 : decode cX6_note 48 = .ok (.getfield 13, 3) := by decide +kernel
theorem dX6_note_51 : decode cX6_note 51 = .ok (.iload 4, 2) := by decide +kernel
theorem dX6_note_53 : decode cX6_note 53 = .ok (.iload_n 3, 1) := by decide +kernel
theorem dX6_note_54 : decode cX6_note 54 = .ok (.iastore, 1) := by decide +kernel
theorem dX6_note_55 : decode cX6_note 55 = .ok (.aload_n 0, 1) := by decide +kernel
theorem dX6_note_56 : decode cX6_note 56 = .ok (.getfield 17, 3) := by decide +kernel
theorem dX6_note_59 : decode cX6_note 59 = .ok (.aload_n 0, 1) := by decide +kernel
theorem dX6_note_60 : decode cX6_note 60 = .ok (.getfield 29, 3) := by decide +kernel
theorem dX6_note_63 : decode cX6_note 63 = .ok (.iload 4, 2) := by decide +kernel
theorem dX6_note_65 : decode cX6_note 65 = .ok (.iastore, 1) := by decide +kernel
theorem dX6_note_66 : decode cX6_note 66 = .ok (.aload_n 0, 1) := by decide +kernel
theorem dX6_note_67 : decode cX6_note 67 = .ok (.dup, 1) := by decide +kernel
theorem dX6_note_68 : decode cX6_note 68 = .ok (.getfield 29, 3) := by decide +kernel
theorem dX6_note_71 : decode cX6_note 71 = .ok (.iconst 1, 1) := by decide +kernel
theorem dX6_note_72 : decode cX6_note 72 = .ok (.iadd, 1) := by decide +kernel
theorem dX6_note_73 : decode cX6_note 73 = .ok (.putfield 29, 3) := by decide +kernel
theorem dX6_note_76 : decode cX6_note 76 = .ok (.aload_n 0, 1) := by decide +kernel
theorem dX6_note_77 : decode cX6_note 77 = .ok (.getfield 20, 3) := by decide +kernel
theorem dX6_note_80 : decode cX6_note 80 = .ok (.iload_n 1, 1) := by decide +kernel
theorem dX6_note_81 : decode cX6_note 81 = .ok (.iaload, 1) := by decide +kernel
theorem dX6_note_82 : decode cX6_note 82 = .ok (.iconst (-1), 1) := by decide +kernel
theorem dX6_note_83 : decode cX6_note 83 = .ok (.if_icmp .ne 11, 3) := by decide +kernel
theorem dX6_note_86 : decode cX6_note 86 = .ok (.aload_n 0, 1) := by decide +kernel
theorem dX6_note_87 : decode cX6_note 87 = .ok (.getfield 20, 3) := by decide +kernel
theorem dX6_note_90 : decode cX6_note 90 = .ok (.iload_n 1, 1) := by decide +kernel
theorem dX6_note_91 : decode cX6_note 91 = .ok (.iload 4, 2) := by decide +kernel
theorem dX6_note_93 : decode cX6_note 93 = .ok (.iastore, 1) := by decide +kernel
theorem dX6_note_94 : decode cX6_note 94 = .ok (.return_, 1) := by decide +kernel
theorem dX6_bestPath_0 : decode cX6_bestPath 0 = .ok (.iload_n 1, 1) := by decide +kernel
theorem dX6_bestPath_1 : decode cX6_bestPath 1 = .ok (.invokestatic 65, 3) := by decide +kernel
theorem dX6_bestPath_4 : decode cX6_bestPath 4 = .ok (.ifCond .eq 12, 3) := by decide +kernel
theorem dX6_bestPath_7 : decode cX6_bestPath 7 = .ok (.aload_n 0, 1) := by decide +kernel
theorem dX6_bestPath_8 : decode cX6_bestPath 8 = .ok (.getfield 20, 3) := by decide +kernel
theorem dX6_bestPath_11 : decode cX6_bestPath 11 = .ok (.iload_n 1, 1) := by decide +kernel
theorem dX6_bestPath_12 : decode cX6_bestPath 12 = .ok (.iaload, 1) := by decide +kernel
theorem dX6_bestPath_13 : decode cX6_bestPath 13 = .ok (.goto 4, 3) := by decide +kernel
theorem dX6_bestPath_16 : decode cX6_bestPath 16 = .ok (.iconst (-1), 1) := by decide +kernel
theorem dX6_bestPath_17 : decode cX6_bestPath 17 = .ok (.istore_n 2, 1) := by decide +kernel
theorem dX6_bestPath_18 : decode cX6_bestPath 18 = .ok (.iload_n 2, 1) := by decide +kernel
theorem dX6_bestPath_19 : decode cX6_bestPath 19 = .ok (.ifCond .lt 21, 3) := by decide +kernel
theorem dX6_bestPath_22 : decode cX6_bestPath 22 = .ok (.iload_n 2, 1) := by decide +kernel
theorem dX6_bestPath_23 : decode cX6_bestPath 23 = .ok (.aload_n 0, 1) := by decide +kernel
theorem dX6_bestPath_24 : decode cX6_bestPath 24 = .ok (.getfield 13, 3) := by decide +kernel
theorem dX6_bestPath_27 : decode cX6_bestPath 27 = .ok (.arraylength, 1) := by decide +kernel
theorem dX6_bestPath_28 : decode cX6_bestPath 28 = .ok (.if_icmp .ge 12, 3) := by decide +kernel
theorem dX6_bestPath_31 : decode cX6_bestPath 31 = .ok (.aload_n 0, 1) := by decide +kernel
theorem dX6_bestPath_32 : decode cX6_bestPath 32 = .ok (.getfield 13, 3) := by decide +kernel
theorem dX6_bestPath_35 : decode cX6_bestPath 35 = .ok (.iload_n 2, 1) := by decide +kernel
theorem dX6_bestPath_36 : decode cX6_bestPath 36 = .ok (.iaload, 1) := by decide +kernel
theorem dX6_bestPath_37 : decode cX6_bestPath 37 = .ok (.goto 4, 3) := by decide +kernel
theorem dX6_bestPath_40 : decode cX6_bestPath 40 = .ok (.iconst 0, 1) := by decide +kernel
theorem dX6_bestPath_41 : decode cX6_bestPath 41 = .ok (.ireturn, 1) := by decide +kernel
theorem dX6_tellOfWay_0 : decode cX6_tellOfWay 0 = .ok (.aload_n 0, 1) := by decide +kernel
theorem dX6_tellOfWay_1 : decode cX6_tellOfWay 1 = .ok (.iload_n 1, 1) := by decide +kernel
theorem dX6_tellOfWay_2 : decode cX6_tellOfWay 2 = .ok (.invokevirtual 72, 3) := by decide +kernel
theorem dX6_tellOfWay_5 : decode cX6_tellOfWay 5 = .ok (.istore_n 3, 1) := by decide +kernel
theorem dX6_tellOfWay_6 : decode cX6_tellOfWay 6 = .ok (.iload_n 3, 1) := by decide +kernel
theorem dX6_tellOfWay_7 : decode cX6_tellOfWay 7 = .ok (.ifCond .ne 6, 3) := by decide +kernel
theorem dX6_tellOfWay_10 : decode cX6_tellOfWay 10 = .ok (.bipush (-9), 2) := by decide +kernel
theorem dX6_tellOfWay_12 : decode cX6_tellOfWay 12 = .ok (.ireturn, 1) := by decide +kernel
theorem dX6_tellOfWay_13 : decode cX6_tellOfWay 13 = .ok (.iload_n 2, 1) := by decide +kernel
theorem dX6_tellOfWay_14 : decode cX6_tellOfWay 14 = .ok (.ifCond .ne 5, 3) := by decide +kernel
theorem dX6_tellOfWay_17 : decode cX6_tellOfWay 17 = .ok (.iload_n 3, 1) := by decide +kernel
theorem dX6_tellOfWay_18 : decode cX6_tellOfWay 18 = .ok (.ireturn, 1) := by decide +kernel
theorem dX6_tellOfWay_19 : decode cX6_tellOfWay 19 = .ok (.iload_n 2, 1) := by decide +kernel
theorem dX6_tellOfWay_20 : decode cX6_tellOfWay 20 = .ok (.iconst 1, 1) := by decide +kernel
theorem dX6_tellOfWay_21 : decode cX6_tellOfWay 21 = .ok (.if_icmp .ne 10, 3) := by decide +kernel
theorem dX6_tellOfWay_24 : decode cX6_tellOfWay 24 = .ok (.iload_n 3, 1) := by decide +kernel
theorem dX6_tellOfWay_25 : decode cX6_tellOfWay 25 = .ok (.invokestatic 45, 3) := by decide +kernel
theorem dX6_tellOfWay_28 : decode cX6_tellOfWay 28 = .ok (.goto 8, 3) := by decide +kernel
theorem dX6_tellOfWay_31 : decode cX6_tellOfWay 31 = .ok (.aload_n 0, 1) := by decide +kernel
theorem dX6_tellOfWay_32 : decode cX6_tellOfWay 32 = .ok (.iload_n 1, 1) := by decide +kernel
theorem dX6_tellOfWay_33 : decode cX6_tellOfWay 33 = .ok (.invokevirtual 75, 3) := by decide +kernel
theorem dX6_tellOfWay_36 : decode cX6_tellOfWay 36 = .ok (.ireturn, 1) := by decide +kernel
theorem dX6_headingAt_0 : decode cX6_headingAt 0 = .ok (.iload_n 1, 1) := by decide +kernel
theorem dX6_headingAt_1 : decode cX6_headingAt 1 = .ok (.invokestatic 65, 3) := by decide +kernel
theorem dX6_headingAt_4 : decode cX6_headingAt 4 = .ok (.ifCond .eq 15, 3) := by decide +kernel
theorem dX6_headingAt_7 : decode cX6_headingAt 7 = .ok (.aload_n 0, 1) := by decide +kernel
theorem dX6_headingAt_8 : decode cX6_headingAt 8 = .ok (.getfield 20, 3) := by decide +kernel
theorem dX6_headingAt_11 : decode cX6_headingAt 11 = .ok (.iload_n 1, 1) := by decide +kernel
theorem dX6_headingAt_12 : decode cX6_headingAt 12 = .ok (.iaload, 1) := by decide +kernel
theorem dX6_headingAt_13 : decode cX6_headingAt 13 = .ok (.bipush 6, 2) := by decide +kernel
theorem dX6_headingAt_15 : decode cX6_headingAt 15 = .ok (.irem, 1) := by decide +kernel
theorem dX6_headingAt_16 : decode cX6_headingAt 16 = .ok (.goto 5, 3) := by decide +kernel
theorem dX6_headingAt_19 : decode cX6_headingAt 19 = .ok (.bipush (-9), 2) := by decide +kernel
theorem dX6_headingAt_21 : decode cX6_headingAt 21 = .ok (.ireturn, 1) := by decide +kernel
theorem dX6_reachedHexes_0 : decode cX6_reachedHexes 0 = .ok (.iconst 0, 1) := by decide +kernel
theorem dX6_reachedHexes_1 : decode cX6_reachedHexes 1 = .ok (.istore_n 1, 1) := by decide +kernel
theorem dX6_reachedHexes_2 : decode cX6_reachedHexes 2 = .ok (.iconst 0, 1) := by decide +kernel
theorem dX6_reachedHexes_3 : decode cX6_reachedHexes 3 = .ok (.istore_n 2, 1) := by decide +kernel
theorem dX6_reachedHexes_4 : decode cX6_reachedHexes 4 = .ok (.iload_n 2, 1) := by decide +kernel
theorem dX6_reachedHexes_5 : decode cX6_reachedHexes 5 = .ok (.bipush 81, 2) := by decide +kernel
theorem dX6_reachedHexes_7 : decode cX6_reachedHexes 7 = .ok (.if_icmp .ge 20, 3) := by decide +kernel
theorem dX6_reachedHexes_10 : decode cX6_reachedHexes 10 = .ok (.aload_n 0, 1) := by decide +kernel
theorem dX6_reachedHexes_11 : decode cX6_reachedHexes 11 = .ok (.iload_n 2, 1) := by decide +kernel
theorem dX6_reachedHexes_12 : decode cX6_reachedHexes 12 = .ok (.invokevirtual 72, 3) := by decide +kernel
theorem dX6_reachedHexes_15 : decode cX6_reachedHexes 15 = .ok (.ifCond .le 6, 3) := by decide +kernel
theorem dX6_reachedHexes_18 : decode cX6_reachedHexes 18 = .ok (.iinc 1 1, 3) := by decide +kernel
theorem dX6_reachedHexes_21 : decode cX6_reachedHexes 21 = .ok (.iinc 2 1, 3) := by decide +kernel
theorem dX6_reachedHexes_24 : decode cX6_reachedHexes 24 = .ok (.goto (-20), 3) := by decide +kernel
theorem dX6_reachedHexes_27 : decode cX6_reachedHexes 27 = .ok (.iload_n 1, 1) := by decide +kernel
theorem dX6_reachedHexes_28 : decode cX6_reachedHexes 28 = .ok (.ireturn, 1) := by decide +kernel
theorem dX7_init_0 : decode cX7_init 0 = .ok (.aload_n 0, 1) := by decide +kernel
theorem dX7_init_1 : decode cX7_init 1 = .ok (.invokespecial 3, 3) := by decide +kernel
theorem dX7_init_4 : decode cX7_init 4 = .ok (.aload_n 0, 1) := by decide +kernel
theorem dX7_init_5 : decode cX7_init 5 = .ok (.bipush (-9), 2) := by decide +kernel
theorem dX7_init_7 : decode cX7_init 7 = .ok (.putfield 9, 3) := by decide +kernel
theorem dX7_init_10 : decode cX7_init 10 = .ok (.aload_n 0, 1) := by decide +kernel
theorem dX7_init_11 : decode cX7_init 11 = .ok (.iload_n 1, 1) := by decide +kernel
theorem dX7_init_12 : decode cX7_init 12 = .ok (.putfield 15, 3) := by decide +kernel
theorem dX7_init_15 : decode cX7_init 15 = .ok (.return_, 1) := by decide +kernel
theorem dX7_hasSide_0 : decode cX7_hasSide 0 = .ok (.iload_n 0, 1) := by decide +kernel
theorem dX7_hasSide_1 : decode cX7_hasSide 1 = .ok (.ifCond .eq 8, 3) := by decide +kernel
theorem dX7_hasSide_4 : decode cX7_hasSide 4 = .ok (.iload_n 0, 1) := by decide +kernel
theorem dX7_hasSide_5 : decode cX7_hasSide 5 = .ok (.iconst 1, 1) := by decide +kernel
theorem dX7_hasSide_6 : decode cX7_hasSide 6 = .ok (.if_icmp .ne 7, 3) := by decide +kernel
theorem dX7_hasSide_9 : decode cX7_hasSide 9 = .ok (.iconst 1, 1) := by decide +kernel
theorem dX7_hasSide_10 : decode cX7_hasSide 10 = .ok (.goto 4, 3) := by decide +kernel
theorem dX7_hasSide_13 : decode cX7_hasSide 13 = .ok (.iconst 0, 1) := by decide +kernel
theorem dX7_hasSide_14 : decode cX7_hasSide 14 = .ok (.ireturn, 1) := by decide +kernel
theorem dX7_copyFrom_0 : decode cX7_copyFrom 0 = .ok (.aload_n 0, 1) := by decide +kernel
theorem dX7_copyFrom_1 : decode cX7_copyFrom 1 = .ok (.aload_n 1, 1) := by decide +kernel
theorem dX7_copyFrom_2 : decode cX7_copyFrom 2 = .ok (.getfield 18, 3) := by decide +kernel
theorem dX7_copyFrom_5 : decode cX7_copyFrom 5 = .ok (.putfield 18, 3) := by decide +kernel
theorem dX7_copyFrom_8 : decode cX7_copyFrom 8 = .ok (.aload_n 0, 1) := by decide +kernel
theorem dX7_copyFrom_9 : decode cX7_copyFrom 9 = .ok (.aload_n 1, 1) := by decide +kernel
theorem dX7_copyFrom_10 : decode cX7_copyFrom 10 = .ok (.getfield 21, 3) := by decide +kernel
theorem dX7_copyFrom_13 : decode cX7_copyFrom 13 = .ok (.putfield 21, 3) := by decide +kernel
theorem dX7_copyFrom_16 : decode cX7_copyFrom 16 = .ok (.aload_n 0, 1) := by decide +kernel
theorem dX7_copyFrom_17 : decode cX7_copyFrom 17 = .ok (.aload_n 1, 1) := by decide +kernel
theorem dX7_copyFrom_18 : decode cX7_copyFrom 18 = .ok (.getfield 24, 3) := by decide +kernel
theorem dX7_copyFrom_21 : decode cX7_copyFrom 21 = .ok (.putfield 24, 3) := by decide +kernel
theorem dX7_copyFrom_24 : decode cX7_copyFrom 24 = .ok (.aload_n 0, 1) := by decide +kernel
theorem dX7_copyFrom_25 : decode cX7_copyFrom 25 = .ok (.aload_n 1, 1) := by decide +kernel
theorem dX7_copyFrom_26 : decode cX7_copyFrom 26 = .ok (.getfield 27, 3) := by decide +kernel
theorem dX7_copyFrom_29 : decode cX7_copyFrom 29 = .ok (.putfield 27, 3) := by decide +kernel
theorem dX7_copyFrom_32 : decode cX7_copyFrom 32 = .ok (.aload_n 0, 1) := by decide +kernel
theorem dX7_copyFrom_33 : decode cX7_copyFrom 33 = .ok (.aload_n 1, 1) := by decide +kernel
theorem dX7_copyFrom_34 : decode cX7_copyFrom 34 = .ok (.getfield 30, 3) := by decide +kernel
theorem dX7_copyFrom_37 : decode cX7_copyFrom 37 = .ok (.putfield 30, 3) := by decide +kernel
theorem dX7_copyFrom_40 : decode cX7_copyFrom 40 = .ok (.aload_n 0, 1) := by decide +kernel
theorem dX7_copyFrom_41 : decode cX7_copyFrom 41 = .ok (.aload_n 1, 1) := by decide +kernel
theorem dX7_copyFrom_42 : decode cX7_copyFrom 42 = .ok (.getfield 33, 3) := by decide +kernel
theorem dX7_copyFrom_45 : decode cX7_copyFrom 45 = .ok (.putfield 33, 3) := by decide +kernel
theorem dX7_copyFrom_48 : decode cX7_copyFrom 48 = .ok (.aload_n 0, 1) := by decide +kernel
theorem dX7_copyFrom_49 : decode cX7_copyFrom 49 = .ok (.aload_n 1, 1) := by decide +kernel
theorem dX7_copyFrom_50 : decode cX7_copyFrom 50 = .ok (.getfield 36, 3) := by decide +kernel
theorem dX7_copyFrom_53 : decode cX7_copyFrom 53 = .ok (.putfield 36, 3) := by decide +kernel
theorem dX7_copyFrom_56 : decode cX7_copyFrom 56 = .ok (.aload_n 0, 1) := by decide +kernel
theorem dX7_copyFrom_57 : decode cX7_copyFrom 57 = .ok (.aload_n 1, 1) := by decide +kernel
theorem dX7_copyFrom_58 : decode cX7_copyFrom 58 = .ok (.getfield 9, 3) := by decide +kernel
theorem dX7_copyFrom_61 : decode cX7_copyFrom 61 = .ok (.putfield 9, 3) := by decide +kernel
theorem dX7_copyFrom_64 : decode cX7_copyFrom 64 = .ok (.aload_n 0, 1) := by decide +kernel
theorem dX7_copyFrom_65 : decode cX7_copyFrom 65 = .ok (.aload_n 1, 1) := by decide +kernel
theorem dX7_copyFrom_66 : decode cX7_copyFrom 66 = .ok (.getfield 39, 3) := by decide +kernel
theorem dX7_copyFrom_69 : decode cX7_copyFrom 69 = .ok (.putfield 39, 3) := by decide +kernel
theorem dX7_copyFrom_72 : decode cX7_copyFrom 72 = .ok (.aload_n 0, 1) := by decide +kernel
theorem dX7_copyFrom_73 : decode cX7_copyFrom 73 = .ok (.aload_n 1, 1) := by decide +kernel
theorem dX7_copyFrom_74 : decode cX7_copyFrom 74 = .ok (.getfield 42, 3) := by decide +kernel
theorem dX7_copyFrom_77 : decode cX7_copyFrom 77 = .ok (.putfield 42, 3) := by decide +kernel
theorem dX7_copyFrom_80 : decode cX7_copyFrom 80 = .ok (.aload_n 0, 1) := by decide +kernel
theorem dX7_copyFrom_81 : decode cX7_copyFrom 81 = .ok (.aload_n 1, 1) := by decide +kernel
theorem dX7_copyFrom_82 : decode cX7_copyFrom 82 = .ok (.getfield 45, 3) := by decide +kernel
theorem dX7_copyFrom_85 : decode cX7_copyFrom 85 = .ok (.putfield 45, 3) := by decide +kernel
theorem dX7_copyFrom_88 : decode cX7_copyFrom 88 = .ok (.return_, 1) := by decide +kernel
theorem dX7_floats_0 : decode cX7_floats 0 = .ok (.aload_n 0, 1) := by decide +kernel
theorem dX7_floats_1 : decode cX7_floats 1 = .ok (.getfield 27, 3) := by decide +kernel
theorem dX7_floats_4 : decode cX7_floats 4 = .ok (.ifCond .le 7, 3) := by decide +kernel
theorem dX7_floats_7 : decode cX7_floats 7 = .ok (.iconst 1, 1) := by decide +kernel
theorem dX7_floats_8 : decode cX7_floats 8 = .ok (.goto 4, 3) := by decide +kernel
theorem dX7_floats_11 : decode cX7_floats 11 = .ok (.iconst 0, 1) := by decide +kernel
theorem dX7_floats_12 : decode cX7_floats 12 = .ok (.ireturn, 1) := by decide +kernel
theorem dX7_isGrappled_0 : decode cX7_isGrappled 0 = .ok (.aload_n 0, 1) := by decide +kernel
theorem dX7_isGrappled_1 : decode cX7_isGrappled 1 = .ok (.getfield 9, 3) := by decide +kernel
theorem dX7_isGrappled_4 : decode cX7_isGrappled 4 = .ok (.bipush (-9), 2) := by decide +kernel
theorem dX7_isGrappled_6 : decode cX7_isGrappled 6 = .ok (.if_icmp .eq 7, 3) := by decide +kernel
theorem dX7_isGrappled_9 : decode cX7_isGrappled 9 = .ok (.iconst 1, 1) := by decide +kernel
theorem dX7_isGrappled_10 : decode cX7_isGrappled 10 = .ok (.goto 4, 3) := by decide +kernel
theorem dX7_isGrappled_13 : decode cX7_isGrappled 13 = .ok (.iconst 0, 1) := by decide +kernel
theorem dX7_isGrappled_14 : decode cX7_isGrappled 14 = .ok (.ireturn, 1) := by decide +kernel
theorem dX7_has_0 : decode cX7_has 0 = .ok (.aload_n 0, 1) := by decide +kernel
theorem dX7_has_1 : decode cX7_has 1 = .ok (.getfield 45, 3) := by decide +kernel
theorem dX7_has_4 : decode cX7_has 4 = .ok (.iload_n 1, 1) := by decide +kernel
theorem dX7_has_5 : decode cX7_has 5 = .ok (.iand, 1) := by decide +kernel
theorem dX7_has_6 : decode cX7_has 6 = .ok (.ifCond .eq 7, 3) := by decide +kernel
theorem dX7_has_9 : decode cX7_has 9 = .ok (.iconst 1, 1) := by decide +kernel
theorem dX7_has_10 : decode cX7_has 10 = .ok (.goto 4, 3) := by decide +kernel
theorem dX7_has_13 : decode cX7_has 13 = .ok (.iconst 0, 1) := by decide +kernel
theorem dX7_has_14 : decode cX7_has 14 = .ok (.ireturn, 1) := by decide +kernel
theorem dX7_stepsBy_0 : decode cX7_stepsBy 0 = .ok (.aload_n 0, 1) := by decide +kernel
theorem dX7_stepsBy_1 : decode cX7_stepsBy 1 = .ok (.invokevirtual 48, 3) := by decide +kernel
theorem dX7_stepsBy_4 : decode cX7_stepsBy 4 = .ok (.ifCond .eq 10, 3) := by decide +kernel
theorem dX7_stepsBy_7 : decode cX7_stepsBy 7 = .ok (.aload_n 0, 1) := by decide +kernel
theorem dX7_stepsBy_8 : decode cX7_stepsBy 8 = .ok (.invokevirtual 52, 3) := by decide +kernel
theorem dX7_stepsBy_11 : decode cX7_stepsBy 11 = .ok (.ifCond .eq 5, 3) := by decide +kernel
theorem dX7_stepsBy_14 : decode cX7_stepsBy 14 = .ok (.iconst 0, 1) := by decide +kernel
theorem dX7_stepsBy_15 : decode cX7_stepsBy 15 = .ok (.ireturn, 1) := by decide +kernel
theorem dX7_stepsBy_16 : decode cX7_stepsBy 16 = .ok (.aload_n 0, 1) := by decide +kernel
theorem dX7_stepsBy_17 : decode cX7_stepsBy 17 = .ok (.iload_n 1, 1) := by decide +kernel
theorem dX7_stepsBy_18 : decode cX7_stepsBy 18 = .ok (.invokevirtual 55, 3) := by decide +kernel
theorem dX7_stepsBy_21 : decode cX7_stepsBy 21 = .ok (.iload_n 2, 1) := by decide +kernel
theorem dX7_stepsBy_22 : decode cX7_stepsBy 22 = .ok (.imul, 1) := by decide +kernel
theorem dX7_stepsBy_23 : decode cX7_stepsBy 23 = .ok (.aload_n 0, 1) := by decide +kernel
theorem dX7_stepsBy_24 : decode cX7_stepsBy 24 = .ok (.getfield 30, 3) := by decide +kernel
theorem dX7_stepsBy_27 : decode cX7_stepsBy 27 = .ok (.aload_n 0, 1) := by decide +kernel
theorem dX7_stepsBy_28 : decode cX7_stepsBy 28 = .ok (.getfield 33, 3) := by decide +kernel
theorem dX7_stepsBy_31 : decode cX7_stepsBy 31 = .ok (.invokestatic 59, 3) := by decide +kernel
theorem dX7_stepsBy_34 : decode cX7_stepsBy 34 = .ok (.imul, 1) := by decide +kernel
theorem dX7_stepsBy_35 : decode cX7_stepsBy 35 = .ok (.bipush 32, 2) := by decide +kernel
theorem dX7_stepsBy_37 : decode cX7_stepsBy 37 = .ok (.idiv, 1) := by decide +kernel
theorem dX7_stepsBy_38 : decode cX7_stepsBy 38 = .ok (.ireturn, 1) := by decide +kernel
theorem dX7_speedFactor_0 : decode cX7_speedFactor 0 = .ok (.aload_n 0, 1) := by decide +kernel
theorem dX7_speedFactor_1 : decode cX7_speedFactor 1 = .ok (.getfield 24, 3) := by decide +kernel
theorem dX7_speedFactor_4 : decode cX7_speedFactor 4 = .ok (.iload_n 1, 1) := by decide +kernel
theorem dX7_speedFactor_5 : decode cX7_speedFactor 5 = .ok (.isub, 1) := by decide +kernel
theorem dX7_speedFactor_6 : decode cX7_speedFactor 6 = .ok (.istore_n 2, 1) := by decide +kernel
theorem dX7_speedFactor_7 : decode cX7_speedFactor 7 = .ok (.iload_n 2, 1) := by decide +kernel
theorem dX7_speedFactor_8 : decode cX7_speedFactor 8 = .ok (.ifCond .ge 10, 3) := by decide +kernel
theorem dX7_speedFactor_11 : decode cX7_speedFactor 11 = .ok (.iload_n 2, 1) := by decide +kernel
theorem dX7_speedFactor_12 : decode cX7_speedFactor 12 = .ok (.bipush 6, 2) := by decide +kernel
theorem dX7_speedFactor_14 : decode cX7_speedFactor 14 = .ok (.iadd, 1) := by decide +kernel
theorem dX7_speedFactor_15 : decode cX7_speedFactor 15 = .ok (.goto 4, 3) := by decide +kernel
theorem dX7_speedFactor_18 : decode cX7_speedFactor 18 = .ok (.iload_n 2, 1) := by decide +kernel
theorem dX7_speedFactor_19 : decode cX7_speedFactor 19 = .ok (.tableswitch 45 0 5 #[37, 40, 43, 45, 43, 40], 37) := by decide +kernel
theorem dX7_speedFactor_56 : decode cX7_speedFactor 56 = .ok (.bipush 6, 2) := by decide +kernel
theorem dX7_speedFactor_58 : decode cX7_speedFactor 58 = .ok (.ireturn, 1) := by decide +kernel
theorem dX7_speedFactor_59 : decode cX7_speedFactor 59 = .ok (.bipush 8, 2) := by decide +kernel
theorem dX7_speedFactor_61 : decode cX7_speedFactor 61 = .ok (.ireturn, 1) := by decide +kernel
theorem dX7_speedFactor_62 : decode cX7_speedFactor 62 = .ok (.iconst 4, 1) := by decide +kernel
theorem dX7_speedFactor_63 : decode cX7_speedFactor 63 = .ok (.ireturn, 1) := by decide +kernel
theorem dX7_speedFactor_64 : decode cX7_speedFactor 64 = .ok (.iconst 0, 1) := by decide +kernel
theorem dX7_speedFactor_65 : decode cX7_speedFactor 65 = .ok (.ireturn, 1) := by decide +kernel
theorem dX7_hitsFrom_0 : decode cX7_hitsFrom 0 = .ok (.aload_n 0, 1) := by decide +kernel
theorem dX7_hitsFrom_1 : decode cX7_hitsFrom 1 = .ok (.getfield 36, 3) := by decide +kernel
theorem dX7_hitsFrom_4 : decode cX7_hitsFrom 4 = .ok (.iconst 4, 1) := by decide +kernel
theorem dX7_hitsFrom_5 : decode cX7_hitsFrom 5 = .ok (.iload_n 1, 1) := by decide +kernel
theorem dX7_hitsFrom_6 : decode cX7_hitsFrom 6 = .ok (.isub, 1) := by decide +kernel
theorem dX7_hitsFrom_7 : decode cX7_hitsFrom 7 = .ok (.imul, 1) := by decide +kernel
theorem dX7_hitsFrom_8 : decode cX7_hitsFrom 8 = .ok (.aload_n 0, 1) := by decide +kernel
theorem dX7_hitsFrom_9 : decode cX7_hitsFrom 9 = .ok (.getfield 33, 3) := by decide +kernel
theorem dX7_hitsFrom_12 : decode cX7_hitsFrom 12 = .ok (.bipush 8, 2) := by decide +kernel
theorem dX7_hitsFrom_14 : decode cX7_hitsFrom 14 = .ok (.invokestatic 59, 3) := by decide +kernel
theorem dX7_hitsFrom_17 : decode cX7_hitsFrom 17 = .ok (.imul, 1) := by decide +kernel
theorem dX7_hitsFrom_18 : decode cX7_hitsFrom 18 = .ok (.bipush 8, 2) := by decide +kernel
theorem dX7_hitsFrom_20 : decode cX7_hitsFrom 20 = .ok (.idiv, 1) := by decide +kernel
theorem dX7_hitsFrom_21 : decode cX7_hitsFrom 21 = .ok (.ireturn, 1) := by decide +kernel
theorem dX7_suffer_0 : decode cX7_suffer 0 = .ok (.aload_n 0, 1) := by decide +kernel
theorem dX7_suffer_1 : decode cX7_suffer 1 = .ok (.iconst 0, 1) := by decide +kernel
theorem dX7_suffer_2 : decode cX7_suffer 2 = .ok (.aload_n 0, 1) := by decide +kernel
theorem dX7_suffer_3 : decode cX7_suffer 3 = .ok (.getfield 27, 3) := by decide +kernel
theorem dX7_suffer_6 : decode cX7_suffer 6 = .ok (.iload_n 1, 1) := by decide +kernel
theorem dX7_suffer_7 : decode cX7_suffer 7 = .ok (.isub, 1) := by decide +kernel
theorem dX7_suffer_8 : decode cX7_suffer 8 = .ok (.invokestatic 67, 3) := by decide +kernel
theorem dX7_suffer_11 : decode cX7_suffer 11 = .ok (.putfield 27, 3) := by decide +kernel
theorem dX7_suffer_14 : decode cX7_suffer 14 = .ok (.aload_n 0, 1) := by decide +kernel
theorem dX7_suffer_15 : decode cX7_suffer 15 = .ok (.iconst 0, 1) := by decide +kernel
theorem dX7_suffer_16 : decode cX7_suffer 16 = .ok (.aload_n 0, 1) := by decide +kernel
theorem dX7_suffer_17 : decode cX7_suffer 17 = .ok (.getfield 33, 3) := by decide +kernel
theorem dX7_suffer_20 : decode cX7_suffer 20 = .ok (.iload_n 1, 1) := by decide +kernel
theorem dX7_suffer_21 : decode cX7_suffer 21 = .ok (.iconst 3, 1) := by decide +kernel
theorem dX7_suffer_22 : decode cX7_suffer 22 = .ok (.idiv, 1) := by decide +kernel
theorem dX7_suffer_23 : decode cX7_suffer 23 = .ok (.isub, 1) := by decide +kernel
theorem dX7_suffer_24 : decode cX7_suffer 24 = .ok (.invokestatic 67, 3) := by decide +kernel
theorem dX7_suffer_27 : decode cX7_suffer 27 = .ok (.putfield 33, 3) := by decide +kernel
theorem dX7_suffer_30 : decode cX7_suffer 30 = .ok (.aload_n 0, 1) := by decide +kernel
theorem dX7_suffer_31 : decode cX7_suffer 31 = .ok (.iconst 0, 1) := by decide +kernel
theorem dX7_suffer_32 : decode cX7_suffer 32 = .ok (.aload_n 0, 1) := by decide +kernel
theorem dX7_suffer_33 : decode cX7_suffer 33 = .ok (.getfield 30, 3) := by decide +kernel
theorem dX7_suffer_36 : decode cX7_suffer 36 = .ok (.iload_n 1, 1) := by decide +kernel
theorem dX7_suffer_37 : decode cX7_suffer 37 = .ok (.iconst 4, 1) := by decide +kernel
theorem dX7_suffer_38 : decode cX7_suffer 38 = .ok (.idiv, 1) := by decide +kernel
theorem dX7_suffer_39 : decode cX7_suffer 39 = .ok (.isub, 1) := by decide +kernel
theorem dX7_suffer_40 : decode cX7_suffer 40 = .ok (.invokestatic 67, 3) := by decide +kernel
theorem dX7_suffer_43 : decode cX7_suffer 43 = .ok (.putfield 30, 3) := by decide +kernel
theorem dX7_suffer_46 : decode cX7_suffer 46 = .ok (.aload_n 0, 1) := by decide +kernel
theorem dX7_suffer_47 : decode cX7_suffer 47 = .ok (.iconst 0, 1) := by decide +kernel
theorem dX7_suffer_48 : decode cX7_suffer 48 = .ok (.aload_n 0, 1) := by decide +kernel
theorem dX7_suffer_49 : decode cX7_suffer 49 = .ok (.getfield 36, 3) := by decide +kernel
theorem dX7_suffer_52 : decode cX7_suffer 52 = .ok (.iload_n 1, 1) := by decide +kernel
theorem dX7_suffer_53 : decode cX7_suffer 53 = .ok (.bipush 6, 2) := by decide +kernel
theorem dX7_suffer_55 : decode cX7_suffer 55 = .ok (.idiv, 1) := by decide +kernel
theorem dX7_suffer_56 : decode cX7_suffer 56 = .ok (.isub, 1) := by decide +kernel
theorem dX7_suffer_57 : decode cX7_suffer 57 = .ok (.invokestatic 67, 3) := by decide +kernel
theorem dX7_suffer_60 : decode cX7_suffer 60 = .ok (.putfield 36, 3) := by decide +kernel
theorem dX7_suffer_63 : decode cX7_suffer 63 = .ok (.return_, 1) := by decide +kernel
theorem dX7_noteShot_0 : decode cX7_noteShot 0 = .ok (.iload_n 1, 1) := by decide +kernel
theorem dX7_noteShot_1 : decode cX7_noteShot 1 = .ok (.ifCond .ne 13, 3) := by decide +kernel
theorem dX7_noteShot_4 : decode cX7_noteShot 4 = .ok (.aload_n 0, 1) := by decide +kernel
theorem dX7_noteShot_5 : decode cX7_noteShot 5 = .ok (.iload_n 2, 1) := by decide +kernel
theorem dX7_noteShot_6 : decode cX7_noteShot 6 = .ok (.iconst 2, 1) := by decide +kernel
theorem dX7_noteShot_7 : decode cX7_noteShot 7 = .ok (.iadd, 1) := by decide +kernel
theorem dX7_noteShot_8 : decode cX7_noteShot 8 = .ok (.putfield 39, 3) := by decide +kernel
theorem dX7_noteShot_11 : decode cX7_noteShot 11 = .ok (.goto 10, 3) := by decide +kernel
theorem dX7_noteShot_14 : decode cX7_noteShot 14 = .ok (.aload_n 0, 1) := by decide +kernel
theorem dX7_noteShot_15 : decode cX7_noteShot 15 = .ok (.iload_n 2, 1) := by decide +kernel
theorem dX7_noteShot_16 : decode cX7_noteShot 16 = .ok (.iconst 2, 1) := by decide +kernel
theorem dX7_noteShot_17 : decode cX7_noteShot 17 = .ok (.iadd, 1) := by decide +kernel
theorem dX7_noteShot_18 : decode cX7_noteShot 18 = .ok (.putfield 42, 3) := by decide +kernel
theorem dX7_noteShot_21 : decode cX7_noteShot 21 = .ok (.aload_n 0, 1) := by decide +kernel
theorem dX7_noteShot_22 : decode cX7_noteShot 22 = .ok (.dup, 1) := by decide +kernel
theorem dX7_noteShot_23 : decode cX7_noteShot 23 = .ok (.getfield 45, 3) := by decide +kernel
theorem dX7_noteShot_26 : decode cX7_noteShot 26 = .ok (.iconst 2, 1) := by decide +kernel
theorem dX7_noteShot_27 : decode cX7_noteShot 27 = .ok (.ior, 1) := by decide +kernel
theorem dX7_noteShot_28 : decode cX7_noteShot 28 = .ok (.putfield 45, 3) := by decide +kernel
theorem dX7_noteShot_31 : decode cX7_noteShot 31 = .ok (.return_, 1) := by decide +kernel
theorem dX7_reloadingSides_0 : decode cX7_reloadingSides 0 = .ok (.iload_n 1, 1) := by decide +kernel
theorem dX7_reloadingSides_1 : decode cX7_reloadingSides 1 = .ok (.aload_n 0, 1) := by decide +kernel
theorem dX7_reloadingSides_2 : decode cX7_reloadingSides 2 = .ok (.getfield 39, 3) := by decide +kernel
theorem dX7_reloadingSides_5 : decode cX7_reloadingSides 5 = .ok (.if_icmp .ge 7, 3) := by decide +kernel
theorem dX7_reloadingSides_8 : decode cX7_reloadingSides 8 = .ok (.iconst 1, 1) := by decide +kernel
theorem dX7_reloadingSides_9 : decode cX7_reloadingSides 9 = .ok (.goto 4, 3) := by decide +kernel
theorem dX7_reloadingSides_12 : decode cX7_reloadingSides 12 = .ok (.iconst 0, 1) := by decide +kernel
theorem dX7_reloadingSides_13 : decode cX7_reloadingSides 13 = .ok (.iload_n 1, 1) := by decide +kernel
theorem dX7_reloadingSides_14 : decode cX7_reloadingSides 14 = .ok (.aload_n 0, 1) := by decide +kernel
theorem dX7_reloadingSides_15 : decode cX7_reloadingSides 15 = .ok (.getfield 42, 3) := by decide +kernel
theorem dX7_reloadingSides_18 : decode cX7_reloadingSides 18 = .ok (.if_icmp .ge 7, 3) := by decide +kernel
theorem dX7_reloadingSides_21 : decode cX7_reloadingSides 21 = .ok (.iconst 2, 1) := by decide +kernel
theorem dX7_reloadingSides_22 : decode cX7_reloadingSides 22 = .ok (.goto 4, 3) := by decide +kernel
theorem dX7_reloadingSides_25 : decode cX7_reloadingSides 25 = .ok (.iconst 0, 1) := by decide +kernel
theorem dX7_reloadingSides_26 : decode cX7_reloadingSides 26 = .ok (.iadd, 1) := by decide +kernel
theorem dX7_reloadingSides_27 : decode cX7_reloadingSides 27 = .ok (.ireturn, 1) := by decide +kernel
theorem dX7_isReloading_0 : decode cX7_isReloading 0 = .ok (.iload_n 2, 1) := by decide +kernel
theorem dX7_isReloading_1 : decode cX7_isReloading 1 = .ok (.iload_n 1, 1) := by decide +kernel
theorem dX7_isReloading_2 : decode cX7_isReloading 2 = .ok (.ifCond .ne 10, 3) := by decide +kernel
theorem dX7_isReloading_5 : decode cX7_isReloading 5 = .ok (.aload_n 0, 1) := by decide +kernel
theorem dX7_isReloading_6 : decode cX7_isReloading 6 = .ok (.getfield 39, 3) := by decide +kernel
theorem dX7_isReloading_9 : decode cX7_isReloading 9 = .ok (.goto 7, 3) := by decide +kernel
theorem dX7_isReloading_12 : decode cX7_isReloading 12 = .ok (.aload_n 0, 1) := by decide +kernel
theorem dX7_isReloading_13 : decode cX7_isReloading 13 = .ok (.getfield 42, 3) := by decide +kernel
theorem dX7_isReloading_16 : decode cX7_isReloading 16 = .ok (.if_icmp .ge 7, 3) := by decide +kernel
theorem dX7_isReloading_19 : decode cX7_isReloading 19 = .ok (.iconst 1, 1) := by decide +kernel
theorem dX7_isReloading_20 : decode cX7_isReloading 20 = .ok (.goto 4, 3) := by decide +kernel
theorem dX7_isReloading_23 : decode cX7_isReloading 23 = .ok (.iconst 0, 1) := by decide +kernel
theorem dX7_isReloading_24 : decode cX7_isReloading 24 = .ok (.ireturn, 1) := by decide +kernel
theorem dX8_init_0 : decode cX8_init 0 = .ok (.aload_n 0, 1) := by decide +kernel
theorem dX8_init_1 : decode cX8_init 1 = .ok (.invokespecial 3, 3) := by decide +kernel
theorem dX8_init_4 : decode cX8_init 4 = .ok (.aload_n 0, 1) := by decide +kernel
theorem dX8_init_5 : decode cX8_init 5 = .ok (.new 9, 3) := by decide +kernel
theorem dX8_init_8 : decode cX8_init 8 = .ok (.dup, 1) := by decide +kernel
theorem dX8_init_9 : decode cX8_init 9 = .ok (.invokespecial 11, 3) := by decide +kernel
theorem dX8_init_12 : decode cX8_init 12 = .ok (.putfield 12, 3) := by decide +kernel
theorem dX8_init_15 : decode cX8_init 15 = .ok (.aload_n 0, 1) := by decide +kernel
theorem dX8_init_16 : decode cX8_init 16 = .ok (.new 9, 3) := by decide +kernel
theorem dX8_init_19 : decode cX8_init 19 = .ok (.dup, 1) := by decide +kernel
theorem dX8_init_20 : decode cX8_init 20 = .ok (.invokespecial 11, 3) := by decide +kernel
theorem dX8_init_23 : decode cX8_init 23 = .ok (.putfield 18, 3) := by decide +kernel
theorem dX8_init_26 : decode cX8_init 26 = .ok (.aload_n 0, 1) := by decide +kernel
theorem dX8_init_27 : decode cX8_init 27 = .ok (.new 9, 3) := by decide +kernel
theorem dX8_init_30 : decode cX8_init 30 = .ok (.dup, 1) := by decide +kernel
theorem dX8_init_31 : decode cX8_init 31 = .ok (.invokespecial 11, 3) := by decide +kernel
theorem dX8_init_34 : decode cX8_init 34 = .ok (.putfield 21, 3) := by decide +kernel
theorem dX8_init_37 : decode cX8_init 37 = .ok (.return_, 1) := by decide +kernel
theorem dX8_copyFrom_0 : decode cX8_copyFrom 0 = .ok (.aload_n 0, 1) := by decide +kernel
theorem dX8_copyFrom_1 : decode cX8_copyFrom 1 = .ok (.getfield 12, 3) := by decide +kernel
theorem dX8_copyFrom_4 : decode cX8_copyFrom 4 = .ok (.aload_n 1, 1) := by decide +kernel
theorem dX8_copyFrom_5 : decode cX8_copyFrom 5 = .ok (.getfield 12, 3) := by decide +kernel
theorem dX8_copyFrom_8 : decode cX8_copyFrom 8 = .ok (.invokevirtual 24, 3) := by decide +kernel
theorem dX8_copyFrom_11 : decode cX8_copyFrom 11 = .ok (.aload_n 0, 1) := by decide +kernel
theorem dX8_copyFrom_12 : decode cX8_copyFrom 12 = .ok (.getfield 18, 3) := by decide +kernel
theorem dX8_copyFrom_15 : decode cX8_copyFrom 15 = .ok (.aload_n 1, 1) := by decide +kernel
theorem dX8_copyFrom_16 : decode cX8_copyFrom 16 = .ok (.getfield 18, 3) := by decide +kernel
theorem dX8_copyFrom_19 : decode cX8_copyFrom 19 = .ok (.invokevirtual 24, 3) := by decide +kernel
theorem dX8_copyFrom_22 : decode cX8_copyFrom 22 = .ok (.aload_n 0, 1) := by decide +kernel
theorem dX8_copyFrom_23 : decode cX8_copyFrom 23 = .ok (.getfield 21, 3) := by decide +kernel
theorem dX8_copyFrom_26 : decode cX8_copyFrom 26 = .ok (.aload_n 1, 1) := by decide +kernel
theorem dX8_copyFrom_27 : decode cX8_copyFrom 27 = .ok (.getfield 21, 3) := by decide +kernel
theorem dX8_copyFrom_30 : decode cX8_copyFrom 30 = .ok (.invokevirtual 24, 3) := by decide +kernel
theorem dX8_copyFrom_33 : decode cX8_copyFrom 33 = .ok (.aload_n 0, 1) := by decide +kernel
theorem dX8_copyFrom_34 : decode cX8_copyFrom 34 = .ok (.aload_n 1, 1) := by decide +kernel
theorem dX8_copyFrom_35 : decode cX8_copyFrom 35 = .ok (.getfield 28, 3) := by decide +kernel
theorem dX8_copyFrom_38 : decode cX8_copyFrom 38 = .ok (.putfield 28, 3) := by decide +kernel
theorem dX8_copyFrom_41 : decode cX8_copyFrom 41 = .ok (.return_, 1) := by decide +kernel
theorem dX8_fillSlot_0 : decode cX8_fillSlot 0 = .ok (.iload_n 1, 1) := by decide +kernel
theorem dX8_fillSlot_1 : decode cX8_fillSlot 1 = .ok (.ifCond .lt 8, 3) := by decide +kernel
theorem dX8_fillSlot_4 : decode cX8_fillSlot 4 = .ok (.iload_n 1, 1) := by decide +kernel
theorem dX8_fillSlot_5 : decode cX8_fillSlot 5 = .ok (.iconst 1, 1) := by decide +kernel
theorem dX8_fillSlot_6 : decode cX8_fillSlot 6 = .ok (.if_icmp .le 5, 3) := by decide +kernel
theorem dX8_fillSlot_9 : decode cX8_fillSlot 9 = .ok (.iconst (-1), 1) := by decide +kernel
theorem dX8_fillSlot_10 : decode cX8_fillSlot 10 = .ok (.ireturn, 1) := by decide +kernel
theorem dX8_fillSlot_11 : decode cX8_fillSlot 11 = .ok (.aload_n 0, 1) := by decide +kernel
theorem dX8_fillSlot_12 : decode cX8_fillSlot 12 = .ok (.iload_n 1, 1) := by decide +kernel
theorem dX8_fillSlot_13 : decode cX8_fillSlot 13 = .ok (.invokevirtual 32, 3) := by decide +kernel
theorem dX8_fillSlot_16 : decode cX8_fillSlot 16 = .ok (.aload_n 0, 1) := by decide +kernel
theorem dX8_fillSlot_17 : decode cX8_fillSlot 17 = .ok (.getfield 12, 3) := by decide +kernel
theorem dX8_fillSlot_20 : decode cX8_fillSlot 20 = .ok (.invokevirtual 24, 3) := by decide +kernel
theorem dX8_fillSlot_23 : decode cX8_fillSlot 23 = .ok (.aload_n 0, 1) := by decide +kernel
theorem dX8_fillSlot_24 : decode cX8_fillSlot 24 = .ok (.dup, 1) := by decide +kernel
theorem dX8_fillSlot_25 : decode cX8_fillSlot 25 = .ok (.getfield 28, 3) := by decide +kernel
theorem dX8_fillSlot_28 : decode cX8_fillSlot 28 = .ok (.iconst 1, 1) := by decide +kernel
theorem dX8_fillSlot_29 : decode cX8_fillSlot 29 = .ok (.iload_n 1, 1) := by decide +kernel
theorem dX8_fillSlot_30 : decode cX8_fillSlot 30 = .ok (.ishl, 1) := by decide +kernel
theorem dX8_fillSlot_31 : decode cX8_fillSlot 31 = .ok (.ior, 1) := by decide +kernel
theorem dX8_fillSlot_32 : decode cX8_fillSlot 32 = .ok (.putfield 28, 3) := by decide +kernel
theorem dX8_fillSlot_35 : decode cX8_fillSlot 35 = .ok (.aload_n 0, 1) := by decide +kernel
theorem dX8_fillSlot_36 : decode cX8_fillSlot 36 = .ok (.getfield 12, 3) := by decide +kernel
theorem dX8_fillSlot_39 : decode cX8_fillSlot 39 = .ok (.invokevirtual 36, 3) := by decide +kernel
theorem dX8_fillSlot_42 : decode cX8_fillSlot 42 = .ok (.ireturn, 1) := by decide +kernel
theorem dX8_resumeSlot_0 : decode cX8_resumeSlot 0 = .ok (.iload_n 1, 1) := by decide +kernel
theorem dX8_resumeSlot_1 : decode cX8_resumeSlot 1 = .ok (.ifCond .lt 8, 3) := by decide +kernel
theorem dX8_resumeSlot_4 : decode cX8_resumeSlot 4 = .ok (.iload_n 1, 1) := by decide +kernel
theorem dX8_resumeSlot_5 : decode cX8_resumeSlot 5 = .ok (.iconst 1, 1) := by decide +kernel
theorem dX8_resumeSlot_6 : decode cX8_resumeSlot 6 = .ok (.if_icmp .le 5, 3) := by decide +kernel
theorem dX8_resumeSlot_9 : decode cX8_resumeSlot 9 = .ok (.iconst (-1), 1) := by decide +kernel
theorem dX8_resumeSlot_10 : decode cX8_resumeSlot 10 = .ok (.ireturn, 1) := by decide +kernel
theorem dX8_resumeSlot_11 : decode cX8_resumeSlot 11 = .ok (.aload_n 0, 1) := by decide +kernel
theorem dX8_resumeSlot_12 : decode cX8_resumeSlot 12 = .ok (.getfield 28, 3) := by decide +kernel
theorem dX8_resumeSlot_15 : decode cX8_resumeSlot 15 = .ok (.iload_n 1, 1) := by decide +kernel
theorem dX8_resumeSlot_16 : decode cX8_resumeSlot 16 = .ok (.ishr, 1) := by decide +kernel
theorem dX8_resumeSlot_17 : decode cX8_resumeSlot 17 = .ok (.iconst 1, 1) := by decide +kernel
theorem dX8_resumeSlot_18 : decode cX8_resumeSlot 18 = .ok (.iand, 1) := by decide +kernel
theorem dX8_resumeSlot_19 : decode cX8_resumeSlot 19 = .ok (.ifCond .ne 6, 3) := by decide +kernel
theorem dX8_resumeSlot_22 : decode cX8_resumeSlot 22 = .ok (.bipush (-2), 2) := by decide +kernel
theorem dX8_resumeSlot_24 : decode cX8_resumeSlot 24 = .ok (.ireturn, 1) := by decide +kernel
theorem dX8_resumeSlot_25 : decode cX8_resumeSlot 25 = .ok (.aload_n 0, 1) := by decide +kernel
theorem dX8_resumeSlot_26 : decode cX8_resumeSlot 26 = .ok (.getfield 12, 3) := by decide +kernel
theorem dX8_resumeSlot_29 : decode cX8_resumeSlot 29 = .ok (.aload_n 0, 1) := by decide +kernel
theorem dX8_resumeSlot_30 : decode cX8_resumeSlot 30 = .ok (.iload_n 1, 1) := by decide +kernel
theorem dX8_resumeSlot_31 : decode cX8_resumeSlot 31 = .ok (.invokevirtual 32, 3) := by decide +kernel
theorem dX8_resumeSlot_34 : decode cX8_resumeSlot 34 = .ok (.invokevirtual 24, 3) := by decide +kernel
theorem dX8_resumeSlot_37 : decode cX8_resumeSlot 37 = .ok (.aload_n 0, 1) := by decide +kernel
theorem dX8_resumeSlot_38 : decode cX8_resumeSlot 38 = .ok (.getfield 12, 3) := by decide +kernel
theorem dX8_resumeSlot_41 : decode cX8_resumeSlot 41 = .ok (.invokevirtual 36, 3) := by decide +kernel
theorem dX8_resumeSlot_44 : decode cX8_resumeSlot 44 = .ok (.ireturn, 1) := by decide +kernel
theorem dX8_slotOf_0 : decode cX8_slotOf 0 = .ok (.iload_n 1, 1) := by decide +kernel
theorem dX8_slotOf_1 : decode cX8_slotOf 1 = .ok (.ifCond .ne 10, 3) := by decide +kernel
theorem dX8_slotOf_4 : decode cX8_slotOf 4 = .ok (.aload_n 0, 1) := by decide +kernel
theorem dX8_slotOf_5 : decode cX8_slotOf 5 = .ok (.getfield 18, 3) := by decide +kernel
theorem dX8_slotOf_8 : decode cX8_slotOf 8 = .ok (.goto 7, 3) := by decide +kernel
theorem dX8_slotOf_11 : decode cX8_slotOf 11 = .ok (.aload_n 0, 1) := by decide +kernel
theorem dX8_slotOf_12 : decode cX8_slotOf 12 = .ok (.getfield 21, 3) := by decide +kernel
theorem dX8_slotOf_15 : decode cX8_slotOf 15 = .ok (.areturn, 1) := by decide +kernel
theorem dX9_init_0 : decode cX9_init 0 = .ok (.aload_n 0, 1) := by decide +kernel
theorem dX9_init_1 : decode cX9_init 1 = .ok (.invokespecial 1, 3) := by decide +kernel
theorem dX9_init_4 : decode cX9_init 4 = .ok (.aload_n 0, 1) := by decide +kernel
theorem dX9_init_5 : decode cX9_init 5 = .ok (.new 7, 3) := by decide +kernel
theorem dX9_init_8 : decode cX9_init 8 = .ok (.dup, 1) := by decide +kernel
theorem dX9_init_9 : decode cX9_init 9 = .ok (.invokespecial 9, 3) := by decide +kernel
theorem dX9_init_12 : decode cX9_init 12 = .ok (.putfield 10, 3) := by decide +kernel
theorem dX9_init_15 : decode cX9_init 15 = .ok (.aload_n 0, 1) := by decide +kernel
theorem dX9_init_16 : decode cX9_init 16 = .ok (.new 16, 3) := by decide +kernel
theorem dX9_init_19 : decode cX9_init 19 = .ok (.dup, 1) := by decide +kernel
theorem dX9_init_20 : decode cX9_init 20 = .ok (.invokespecial 18, 3) := by decide +kernel
theorem dX9_init_23 : decode cX9_init 23 = .ok (.putfield 19, 3) := by decide +kernel
theorem dX9_init_26 : decode cX9_init 26 = .ok (.aload_n 0, 1) := by decide +kernel
theorem dX9_init_27 : decode cX9_init 27 = .ok (.new 23, 3) := by decide +kernel
theorem dX9_init_30 : decode cX9_init 30 = .ok (.dup, 1) := by decide +kernel
theorem dX9_init_31 : decode cX9_init 31 = .ok (.invokespecial 25, 3) := by decide +kernel
theorem dX9_init_34 : decode cX9_init 34 = .ok (.putfield 26, 3) := by decide +kernel
theorem dX9_init_37 : decode cX9_init 37 = .ok (.aload_n 0, 1) := by decide +kernel
theorem dX9_init_38 : decode cX9_init 38 = .ok (.new 30, 3) := by decide +kernel
theorem dX9_init_41 : decode cX9_init 41 = .ok (.dup, 1) := by decide +kernel
theorem dX9_init_42 : decode cX9_init 42 = .ok (.invokespecial 32, 3) := by decide +kernel
theorem dX9_init_45 : decode cX9_init 45 = .ok (.putfield 33, 3) := by decide +kernel
theorem dX9_init_48 : decode cX9_init 48 = .ok (.return_, 1) := by decide +kernel
theorem dX9_setIsland_0 : decode cX9_setIsland 0 = .ok (.aload_n 0, 1) := by decide +kernel
theorem dX9_setIsland_1 : decode cX9_setIsland 1 = .ok (.getfield 19, 3) := by decide +kernel
theorem dX9_setIsland_4 : decode cX9_setIsland 4 = .ok (.aload_n 0, 1) := by decide +kernel
theorem dX9_setIsland_5 : decode cX9_setIsland 5 = .ok (.getfield 10, 3) := by decide +kernel
theorem dX9_setIsland_8 : decode cX9_setIsland 8 = .ok (.invokevirtual 37, 3) := by decide +kernel
theorem dX9_setIsland_11 : decode cX9_setIsland 11 = .ok (.aload_n 0, 1) := by decide +kernel
theorem dX9_setIsland_12 : decode cX9_setIsland 12 = .ok (.getfield 19, 3) := by decide +kernel
theorem dX9_setIsland_15 : decode cX9_setIsland 15 = .ok (.aload_n 0, 1) := by decide +kernel
theorem dX9_setIsland_16 : decode cX9_setIsland 16 = .ok (.getfield 10, 3) := by decide +kernel
theorem dX9_setIsland_19 : decode cX9_setIsland 19 = .ok (.getfield 41, 3) := by decide +kernel
theorem dX9_setIsland_22 : decode cX9_setIsland 22 = .ok (.iload_n 1, 1) := by decide +kernel
theorem dX9_setIsland_23 : decode cX9_setIsland 23 = .ok (.iload_n 2, 1) := by decide +kernel
theorem dX9_setIsland_24 : decode cX9_setIsland 24 = .ok (.invokevirtual 45, 3) := by decide +kernel
theorem dX9_setIsland_27 : decode cX9_setIsland 27 = .ok (.invokevirtual 51, 3) := by decide +kernel
theorem dX9_setIsland_30 : decode cX9_setIsland 30 = .ok (.ireturn, 1) := by decide +kernel
theorem dX9_addShip_0 : decode cX9_addShip 0 = .ok (.aload_n 0, 1) := by decide +kernel
theorem dX9_addShip_1 : decode cX9_addShip 1 = .ok (.getfield 19, 3) := by decide +kernel
theorem dX9_addShip_4 : decode cX9_addShip 4 = .ok (.aload_n 0, 1) := by decide +kernel
theorem dX9_addShip_5 : decode cX9_addShip 5 = .ok (.getfield 10, 3) := by decide +kernel
theorem dX9_addShip_8 : decode cX9_addShip 8 = .ok (.invokevirtual 37, 3) := by decide +kernel
theorem dX9_addShip_11 : decode cX9_addShip 11 = .ok (.aload_n 0, 1) := by decide +kernel
theorem dX9_addShip_12 : decode cX9_addShip 12 = .ok (.getfield 19, 3) := by decide +kernel
theorem dX9_addShip_15 : decode cX9_addShip 15 = .ok (.aload_n 0, 1) := by decide +kernel
theorem dX9_addShip_16 : decode cX9_addShip 16 = .ok (.getfield 10, 3) := by decide +kernel
theorem dX9_addShip_19 : decode cX9_addShip 19 = .ok (.getfield 41, 3) := by decide +kernel
theorem dX9_addShip_22 : decode cX9_addShip 22 = .ok (.iload_n 1, 1) := by decide +kernel
theorem dX9_addShip_23 : decode cX9_addShip 23 = .ok (.iload_n 2, 1) := by decide +kernel
theorem dX9_addShip_24 : decode cX9_addShip 24 = .ok (.iload_n 3, 1) := by decide +kernel
theorem dX9_addShip_25 : decode cX9_addShip 25 = .ok (.iload 4, 2) := by decide +kernel
theorem dX9_addShip_27 : decode cX9_addShip 27 = .ok (.iload 5, 2) := by decide +kernel
theorem dX9_addShip_29 : decode cX9_addShip 29 = .ok (.iload 6, 2) := by decide +kernel
theorem dX9_addShip_31 : decode cX9_addShip 31 = .ok (.invokevirtual 55, 3) := by decide +kernel
theorem dX9_addShip_34 : decode cX9_addShip 34 = .ok (.invokevirtual 51, 3) := by decide +kernel
theorem dX9_addShip_37 : decode cX9_addShip 37 = .ok (.ireturn, 1) := by decide +kernel
theorem dX9_tell_0 : decode cX9_tell 0 = .ok (.aload_n 0, 1) := by decide +kernel
theorem dX9_tell_1 : decode cX9_tell 1 = .ok (.getfield 19, 3) := by decide +kernel
theorem dX9_tell_4 : decode cX9_tell 4 = .ok (.aload_n 0, 1) := by decide +kernel
theorem dX9_tell_5 : decode cX9_tell 5 = .ok (.getfield 10, 3) := by decide +kernel
theorem dX9_tell_8 : decode cX9_tell 8 = .ok (.invokevirtual 37, 3) := by decide +kernel
theorem dX9_tell_11 : decode cX9_tell 11 = .ok (.aload_n 0, 1) := by decide +kernel
theorem dX9_tell_12 : decode cX9_tell 12 = .ok (.getfield 19, 3) := by decide +kernel
theorem dX9_tell_15 : decode cX9_tell 15 = .ok (.aload_n 0, 1) := by decide +kernel
theorem dX9_tell_16 : decode cX9_tell 16 = .ok (.getfield 10, 3) := by decide +kernel
theorem dX9_tell_19 : decode cX9_tell 19 = .ok (.getfield 41, 3) := by decide +kernel
theorem dX9_tell_22 : decode cX9_tell 22 = .ok (.iload_n 1, 1) := by decide +kernel
theorem dX9_tell_23 : decode cX9_tell 23 = .ok (.iload_n 2, 1) := by decide +kernel
theorem dX9_tell_24 : decode cX9_tell 24 = .ok (.invokevirtual 62, 3) := by decide +kernel
theorem dX9_tell_27 : decode cX9_tell 27 = .ok (.invokevirtual 51, 3) := by decide +kernel
theorem dX9_tell_30 : decode cX9_tell 30 = .ok (.ireturn, 1) := by decide +kernel
theorem dX9_sail_0 : decode cX9_sail 0 = .ok (.aload_n 0, 1) := by decide +kernel
theorem dX9_sail_1 : decode cX9_sail 1 = .ok (.getfield 19, 3) := by decide +kernel
theorem dX9_sail_4 : decode cX9_sail 4 = .ok (.aload_n 0, 1) := by decide +kernel
theorem dX9_sail_5 : decode cX9_sail 5 = .ok (.getfield 10, 3) := by decide +kernel
theorem dX9_sail_8 : decode cX9_sail 8 = .ok (.invokevirtual 37, 3) := by decide +kernel
theorem dX9_sail_11 : decode cX9_sail 11 = .ok (.aload_n 0, 1) := by decide +kernel
theorem dX9_sail_12 : decode cX9_sail 12 = .ok (.getfield 19, 3) := by decide +kernel
theorem dX9_sail_15 : decode cX9_sail 15 = .ok (.aload_n 0, 1) := by decide +kernel
theorem dX9_sail_16 : decode cX9_sail 16 = .ok (.getfield 10, 3) := by decide +kernel
theorem dX9_sail_19 : decode cX9_sail 19 = .ok (.getfield 41, 3) := by decide +kernel
theorem dX9_sail_22 : decode cX9_sail 22 = .ok (.iload_n 1, 1) := by decide +kernel
theorem dX9_sail_23 : decode cX9_sail 23 = .ok (.iload_n 2, 1) := by decide +kernel
theorem dX9_sail_24 : decode cX9_sail 24 = .ok (.invokevirtual 65, 3) := by decide +kernel
theorem dX9_sail_27 : decode cX9_sail 27 = .ok (.invokevirtual 51, 3) := by decide +kernel
theorem dX9_sail_30 : decode cX9_sail 30 = .ok (.ireturn, 1) := by decide +kernel
theorem dX9_fire_0 : decode cX9_fire 0 = .ok (.aload_n 0, 1) := by decide +kernel
theorem dX9_fire_1 : decode cX9_fire 1 = .ok (.getfield 19, 3) := by decide +kernel
theorem dX9_fire_4 : decode cX9_fire 4 = .ok (.aload_n 0, 1) := by decide +kernel
theorem dX9_fire_5 : decode cX9_fire 5 = .ok (.getfield 10, 3) := by decide +kernel
theorem dX9_fire_8 : decode cX9_fire 8 = .ok (.invokevirtual 37, 3) := by decide +kernel
theorem dX9_fire_11 : decode cX9_fire 11 = .ok (.aload_n 0, 1) := by decide +kernel
theorem dX9_fire_12 : decode cX9_fire 12 = .ok (.getfield 19, 3) := by decide +kernel
theorem dX9_fire_15 : decode cX9_fire 15 = .ok (.aload_n 0, 1) := by decide +kernel
theorem dX9_fire_16 : decode cX9_fire 16 = .ok (.getfield 10, 3) := by decide +kernel
theorem dX9_fire_19 : decode cX9_fire 19 = .ok (.getfield 41, 3) := by decide +kernel
theorem dX9_fire_22 : decode cX9_fire 22 = .ok (.iload_n 1, 1) := by decide +kernel
theorem dX9_fire_23 : decode cX9_fire 23 = .ok (.iload_n 2, 1) := by decide +kernel
theorem dX9_fire_24 : decode cX9_fire 24 = .ok (.iload_n 3, 1) := by decide +kernel
theorem dX9_fire_25 : decode cX9_fire 25 = .ok (.invokevirtual 68, 3) := by decide +kernel
theorem dX9_fire_28 : decode cX9_fire 28 = .ok (.invokevirtual 51, 3) := by decide +kernel
theorem dX9_fire_31 : decode cX9_fire 31 = .ok (.ireturn, 1) := by decide +kernel
theorem dX9_grapple_0 : decode cX9_grapple 0 = .ok (.aload_n 0, 1) := by decide +kernel
theorem dX9_grapple_1 : decode cX9_grapple 1 = .ok (.getfield 19, 3) := by decide +kernel
theorem dX9_grapple_4 : decode cX9_grapple 4 = .ok (.aload_n 0, 1) := by decide +kernel
theorem dX9_grapple_5 : decode cX9_grapple 5 = .ok (.getfield 10, 3) := by decide +kernel
theorem dX9_grapple_8 : decode cX9_grapple 8 = .ok (.invokevirtual 37, 3) := by decide +kernel
theorem dX9_grapple_11 : decode cX9_grapple 11 = .ok (.aload_n 0, 1) := by decide +kernel
theorem dX9_grapple_12 : decode cX9_grapple 12 = .ok (.getfield 19, 3) := by decide +kernel
theorem dX9_grapple_15 : decode cX9_grapple 15 = .ok (.aload_n 0, 1) := by decide +kernel
theorem dX9_grapple_16 : decode cX9_grapple 16 = .ok (.getfield 10, 3) := by decide +kernel
theorem dX9_grapple_19 : decode cX9_grapple 19 = .ok (.getfield 41, 3) := by decide +kernel
theorem dX9_grapple_22 : decode cX9_grapple 22 = .ok (.iload_n 1, 1) := by decide +kernel
theorem dX9_grapple_23 : decode cX9_grapple 23 = .ok (.iload_n 2, 1) := by decide +kernel
theorem dX9_grapple_24 : decode cX9_grapple 24 = .ok (.invokevirtual 72, 3) := by decide +kernel
theorem dX9_grapple_27 : decode cX9_grapple 27 = .ok (.invokevirtual 51, 3) := by decide +kernel
theorem dX9_grapple_30 : decode cX9_grapple 30 = .ok (.ireturn, 1) := by decide +kernel
theorem dX9_cut_0 : decode cX9_cut 0 = .ok (.aload_n 0, 1) := by decide +kernel
theorem dX9_cut_1 : decode cX9_cut 1 = .ok (.getfield 19, 3) := by decide +kernel
theorem dX9_cut_4 : decode cX9_cut 4 = .ok (.aload_n 0, 1) := by decide +kernel
theorem dX9_cut_5 : decode cX9_cut 5 = .ok (.getfield 10, 3) := by decide +kernel
theorem dX9_cut_8 : decode cX9_cut 8 = .ok (.invokevirtual 37, 3) := by decide +kernel
theorem dX9_cut_11 : decode cX9_cut 11 = .ok (.aload_n 0, 1) := by decide +kernel
theorem dX9_cut_12 : decode cX9_cut 12 = .ok (.getfield 19, 3) := by decide +kernel
theorem dX9_cut_15 : decode cX9_cut 15 = .ok (.aload_n 0, 1) := by decide +kernel
theorem dX9_cut_16 : decode cX9_cut 16 = .ok (.getfield 10, 3) := by decide +kernel
theorem dX9_cut_19 : decode cX9_cut 19 = .ok (.getfield 41, 3) := by decide +kernel
theorem dX9_cut_22 : decode cX9_cut 22 = .ok (.iload_n 1, 1) := by decide +kernel
theorem dX9_cut_23 : decode cX9_cut 23 = .ok (.invokevirtual 75, 3) := by decide +kernel
theorem dX9_cut_26 : decode cX9_cut 26 = .ok (.invokevirtual 51, 3) := by decide +kernel
theorem dX9_cut_29 : decode cX9_cut 29 = .ok (.ireturn, 1) := by decide +kernel
theorem dX9_repair_0 : decode cX9_repair 0 = .ok (.aload_n 0, 1) := by decide +kernel
theorem dX9_repair_1 : decode cX9_repair 1 = .ok (.getfield 19, 3) := by decide +kernel
theorem dX9_repair_4 : decode cX9_repair 4 = .ok (.aload_n 0, 1) := by decide +kernel
theorem dX9_repair_5 : decode cX9_repair 5 = .ok (.getfield 10, 3) := by decide +kernel
theorem dX9_repair_8 : decode cX9_repair 8 = .ok (.invokevirtual 37, 3) := by decide +kernel
theorem dX9_repair_11 : decode cX9_repair 11 = .ok (.aload_n 0, 1) := by decide +kernel
theorem dX9_repair_12 : decode cX9_repair 12 = .ok (.getfield 19, 3) := by decide +kernel
theorem dX9_repair_15 : decode cX9_repair 15 = .ok (.aload_n 0, 1) := by decide +kernel
theorem dX9_repair_16 : decode cX9_repair 16 = .ok (.getfield 10, 3) := by decide +kernel
theorem dX9_repair_19 : decode cX9_repair 19 = .ok (.getfield 41, 3) := by decide +kernel
theorem dX9_repair_22 : decode cX9_repair 22 = .ok (.iload_n 1, 1) := by decide +kernel
theorem dX9_repair_23 : decode cX9_repair 23 = .ok (.iload_n 2, 1) := by decide +kernel
theorem dX9_repair_24 : decode cX9_repair 24 = .ok (.invokevirtual 78, 3) := by decide +kernel
theorem dX9_repair_27 : decode cX9_repair 27 = .ok (.invokevirtual 51, 3) := by decide +kernel
theorem dX9_repair_30 : decode cX9_repair 30 = .ok (.ireturn, 1) := by decide +kernel
theorem dX9_end_0 : decode cX9_end 0 = .ok (.aload_n 0, 1) := by decide +kernel
theorem dX9_end_1 : decode cX9_end 1 = .ok (.getfield 19, 3) := by decide +kernel
theorem dX9_end_4 : decode cX9_end 4 = .ok (.aload_n 0, 1) := by decide +kernel
theorem dX9_end_5 : decode cX9_end 5 = .ok (.getfield 10, 3) := by decide +kernel
theorem dX9_end_8 : decode cX9_end 8 = .ok (.invokevirtual 37, 3) := by decide +kernel
theorem dX9_end_11 : decode cX9_end 11 = .ok (.aload_n 0, 1) := by decide +kernel
theorem dX9_end_12 : decode cX9_end 12 = .ok (.getfield 19, 3) := by decide +kernel
theorem dX9_end_15 : decode cX9_end 15 = .ok (.aload_n 0, 1) := by decide +kernel
theorem dX9_end_16 : decode cX9_end 16 = .ok (.getfield 10, 3) := by decide +kernel
theorem dX9_end_19 : decode cX9_end 19 = .ok (.getfield 41, 3) := by decide +kernel
theorem dX9_end_22 : decode cX9_end 22 = .ok (.invokevirtual 81, 3) := by decide +kernel
theorem dX9_end_25 : decode cX9_end 25 = .ok (.invokevirtual 51, 3) := by decide +kernel
theorem dX9_end_28 : decode cX9_end 28 = .ok (.ireturn, 1) := by decide +kernel
theorem dX9_take_0 : decode cX9_take 0 = .ok (.aload_n 0, 1) := by decide +kernel
theorem dX9_take_1 : decode cX9_take 1 = .ok (.getfield 19, 3) := by decide +kernel
theorem dX9_take_4 : decode cX9_take 4 = .ok (.aload_n 0, 1) := by decide +kernel
theorem dX9_take_5 : decode cX9_take 5 = .ok (.getfield 10, 3) := by decide +kernel
theorem dX9_take_8 : decode cX9_take 8 = .ok (.invokevirtual 37, 3) := by decide +kernel
theorem dX9_take_11 : decode cX9_take 11 = .ok (.aload_n 0, 1) := by decide +kernel
theorem dX9_take_12 : decode cX9_take 12 = .ok (.getfield 19, 3) := by decide +kernel
theorem dX9_take_15 : decode cX9_take 15 = .ok (.aload_n 0, 1) := by decide +kernel
theorem dX9_take_16 : decode cX9_take 16 = .ok (.getfield 10, 3) := by decide +kernel
theorem dX9_take_19 : decode cX9_take 19 = .ok (.iload_n 1, 1) := by decide +kernel
theorem dX9_take_20 : decode cX9_take 20 = .ok (.invokevirtual 85, 3) := by decide +kernel
theorem dX9_take_23 : decode cX9_take 23 = .ok (.invokevirtual 51, 3) := by decide +kernel
theorem dX9_take_26 : decode cX9_take 26 = .ok (.ireturn, 1) := by decide +kernel
theorem dX9_restore_0 : decode cX9_restore 0 = .ok (.aload_n 0, 1) := by decide +kernel
theorem dX9_restore_1 : decode cX9_restore 1 = .ok (.getfield 19, 3) := by decide +kernel
theorem dX9_restore_4 : decode cX9_restore 4 = .ok (.aload_n 0, 1) := by decide +kernel
theorem dX9_restore_5 : decode cX9_restore 5 = .ok (.getfield 10, 3) := by decide +kernel
theorem dX9_restore_8 : decode cX9_restore 8 = .ok (.invokevirtual 37, 3) := by decide +kernel
theorem dX9_restore_11 : decode cX9_restore 11 = .ok (.aload_n 0, 1) := by decide +kernel
theorem dX9_restore_12 : decode cX9_restore 12 = .ok (.getfield 19, 3) := by decide +kernel
theorem dX9_restore_15 : decode cX9_restore 15 = .ok (.aload_n 0, 1) := by decide +kernel
theorem dX9_restore_16 : decode cX9_restore 16 = .ok (.getfield 10, 3) := by decide +kernel
theorem dX9_restore_19 : decode cX9_restore 19 = .ok (.iload_n 1, 1) := by decide +kernel
theorem dX9_restore_20 : decode cX9_restore 20 = .ok (.invokevirtual 88, 3) := by decide +kernel
theorem dX9_restore_23 : decode cX9_restore 23 = .ok (.invokevirtual 51, 3) := by decide +kernel
theorem dX9_restore_26 : decode cX9_restore 26 = .ok (.ireturn, 1) := by decide +kernel
theorem dX9_undo_0 : decode cX9_undo 0 = .ok (.aload_n 0, 1) := by decide +kernel
theorem dX9_undo_1 : decode cX9_undo 1 = .ok (.getfield 19, 3) := by decide +kernel
theorem dX9_undo_4 : decode cX9_undo 4 = .ok (.aload_n 0, 1) := by decide +kernel
theorem dX9_undo_5 : decode cX9_undo 5 = .ok (.getfield 10, 3) := by decide +kernel
theorem dX9_undo_8 : decode cX9_undo 8 = .ok (.invokevirtual 91, 3) := by decide +kernel
theorem dX9_undo_11 : decode cX9_undo 11 = .ok (.ireturn, 1) := by decide +kernel
theorem dX9_count_0 : decode cX9_count 0 = .ok (.iload_n 1, 1) := by decide +kernel
theorem dX9_count_1 : decode cX9_count 1 = .ok (.tableswitch 54 9 11 #[27, 38, 46], 27) := by decide +kernel
theorem dX9_count_28 : decode cX9_count 28 = .ok (.aload_n 0, 1) := by decide +kernel
theorem dX9_count_29 : decode cX9_count 29 = .ok (.getfield 10, 3) := by decide +kernel
theorem dX9_count_32 : decode cX9_count 32 = .ok (.getfield 118, 3) := by decide +kernel
theorem dX9_count_35 : decode cX9_count 35 = .ok (.invokestatic 122, 3) := by decide +kernel
theorem dX9_count_38 : decode cX9_count 38 = .ok (.ireturn, 1) := by decide +kernel
theorem dX9_count_39 : decode cX9_count 39 = .ok (.aload_n 0, 1) := by decide +kernel
theorem dX9_count_40 : decode cX9_count 40 = .ok (.getfield 19, 3) := by decide +kernel
theorem dX9_count_43 : decode cX9_count 43 = .ok (.invokevirtual 127, 3) := by decide +kernel
theorem dX9_count_46 : decode cX9_count 46 = .ok (.ireturn, 1) := by decide +kernel
theorem dX9_count_47 : decode cX9_count 47 = .ok (.aload_n 0, 1) := by decide +kernel
theorem dX9_count_48 : decode cX9_count 48 = .ok (.getfield 26, 3) := by decide +kernel
theorem dX9_count_51 : decode cX9_count 51 = .ok (.invokevirtual 130, 3) := by decide +kernel
theorem dX9_count_54 : decode cX9_count 54 = .ok (.ireturn, 1) := by decide +kernel
theorem dX9_count_55 : decode cX9_count 55 = .ok (.aload_n 0, 1) := by decide +kernel
theorem dX9_count_56 : decode cX9_count 56 = .ok (.getfield 10, 3) := by decide +kernel
theorem dX9_count_59 : decode cX9_count 59 = .ok (.getfield 41, 3) := by decide +kernel
theorem dX9_count_62 : decode cX9_count 62 = .ok (.iload_n 1, 1) := by decide +kernel
theorem dX9_count_63 : decode cX9_count 63 = .ok (.invokevirtual 133, 3) := by decide +kernel
theorem dX9_count_66 : decode cX9_count 66 = .ok (.ireturn, 1) := by decide +kernel
theorem dX9_captain_0 : decode cX9_captain 0 = .ok (.iload_n 1, 1) := by decide +kernel
theorem dX9_captain_1 : decode cX9_captain 1 = .ok (.invokestatic 136, 3) := by decide +kernel
theorem dX9_captain_4 : decode cX9_captain 4 = .ok (.ifCond .eq 18, 3) := by decide +kernel
theorem dX9_captain_7 : decode cX9_captain 7 = .ok (.aload_n 0, 1) := by decide +kernel
theorem dX9_captain_8 : decode cX9_captain 8 = .ok (.getfield 10, 3) := by decide +kernel
theorem dX9_captain_11 : decode cX9_captain 11 = .ok (.getfield 41, 3) := by decide +kernel
theorem dX9_captain_14 : decode cX9_captain 14 = .ok (.iload_n 1, 1) := by decide +kernel
theorem dX9_captain_15 : decode cX9_captain 15 = .ok (.iload_n 2, 1) := by decide +kernel
theorem dX9_captain_16 : decode cX9_captain 16 = .ok (.invokevirtual 142, 3) := by decide +kernel
theorem dX9_captain_19 : decode cX9_captain 19 = .ok (.goto 4, 3) := by decide +kernel
theorem dX9_captain_22 : decode cX9_captain 22 = .ok (.iconst (-1), 1) := by decide +kernel
theorem dX9_captain_23 : decode cX9_captain 23 = .ok (.ireturn, 1) := by decide +kernel
theorem dX9_ship_0 : decode cX9_ship 0 = .ok (.aload_n 0, 1) := by decide +kernel
theorem dX9_ship_1 : decode cX9_ship 1 = .ok (.getfield 10, 3) := by decide +kernel
theorem dX9_ship_4 : decode cX9_ship 4 = .ok (.getfield 41, 3) := by decide +kernel
theorem dX9_ship_7 : decode cX9_ship 7 = .ok (.iload_n 1, 1) := by decide +kernel
theorem dX9_ship_8 : decode cX9_ship 8 = .ok (.invokevirtual 145, 3) := by decide +kernel
theorem dX9_ship_11 : decode cX9_ship 11 = .ok (.astore_n 3, 1) := by decide +kernel
theorem dX9_ship_12 : decode cX9_ship 12 = .ok (.aload_n 3, 1) := by decide +kernel
theorem dX9_ship_13 : decode cX9_ship 13 = .ok (.ifnonnull 7, 3) := by decide +kernel
theorem dX9_ship_16 : decode cX9_ship 16 = .ok (.iconst (-1), 1) := by decide +kernel
theorem dX9_ship_17 : decode cX9_ship 17 = .ok (.goto 15, 3) := by decide +kernel
theorem dX9_ship_20 : decode cX9_ship 20 = .ok (.aload_n 0, 1) := by decide +kernel
theorem dX9_ship_21 : decode cX9_ship 21 = .ok (.getfield 10, 3) := by decide +kernel
theorem dX9_ship_24 : decode cX9_ship 24 = .ok (.getfield 41, 3) := by decide +kernel
theorem dX9_ship_27 : decode cX9_ship 27 = .ok (.aload_n 3, 1) := by decide +kernel
theorem dX9_ship_28 : decode cX9_ship 28 = .ok (.iload_n 2, 1) := by decide +kernel
theorem dX9_ship_29 : decode cX9_ship 29 = .ok (.invokevirtual 149, 3) := by decide +kernel
theorem dX9_ship_32 : decode cX9_ship 32 = .ok (.ireturn, 1) := by decide +kernel
theorem dX9_on_0 : decode cX9_on 0 = .ok (.iload_n 1, 1) := by decide +kernel
theorem dX9_on_1 : decode cX9_on 1 = .ok (.invokestatic 153, 3) := by decide +kernel
theorem dX9_on_4 : decode cX9_on 4 = .ok (.ifCond .eq 17, 3) := by decide +kernel
theorem dX9_on_7 : decode cX9_on 7 = .ok (.aload_n 0, 1) := by decide +kernel
theorem dX9_on_8 : decode cX9_on 8 = .ok (.getfield 10, 3) := by decide +kernel
theorem dX9_on_11 : decode cX9_on 11 = .ok (.getfield 41, 3) := by decide +kernel
theorem dX9_on_14 : decode cX9_on 14 = .ok (.iload_n 1, 1) := by decide +kernel
theorem dX9_on_15 : decode cX9_on 15 = .ok (.invokevirtual 156, 3) := by decide +kernel
theorem dX9_on_18 : decode cX9_on 18 = .ok (.goto 4, 3) := by decide +kernel
theorem dX9_on_21 : decode cX9_on 21 = .ok (.iconst (-1), 1) := by decide +kernel
theorem dX9_on_22 : decode cX9_on 22 = .ok (.ireturn, 1) := by decide +kernel
theorem dX9_targets_0 : decode cX9_targets 0 = .ok (.aload_n 0, 1) := by decide +kernel
theorem dX9_targets_1 : decode cX9_targets 1 = .ok (.getfield 10, 3) := by decide +kernel
theorem dX9_targets_4 : decode cX9_targets 4 = .ok (.getfield 41, 3) := by decide +kernel
theorem dX9_targets_7 : decode cX9_targets 7 = .ok (.iload_n 1, 1) := by decide +kernel
theorem dX9_targets_8 : decode cX9_targets 8 = .ok (.invokevirtual 145, 3) := by decide +kernel
theorem dX9_targets_11 : decode cX9_targets 11 = .ok (.astore_n 3, 1) := by decide +kernel
theorem dX9_targets_12 : decode cX9_targets 12 = .ok (.aload_n 3, 1) := by decide +kernel
theorem dX9_targets_13 : decode cX9_targets 13 = .ok (.ifnull 10, 3) := by decide +kernel
theorem dX9_targets_16 : decode cX9_targets 16 = .ok (.iload_n 2, 1) := by decide +kernel
theorem dX9_targets_17 : decode cX9_targets 17 = .ok (.invokestatic 159, 3) := by decide +kernel
theorem dX9_targets_20 : decode cX9_targets 20 = .ok (.ifCond .ne 7, 3) := by decide +kernel
theorem dX9_targets_23 : decode cX9_targets 23 = .ok (.iconst (-1), 1) := by decide +kernel
theorem dX9_targets_24 : decode cX9_targets 24 = .ok (.goto 15, 3) := by decide +kernel
theorem dX9_targets_27 : decode cX9_targets 27 = .ok (.aload_n 0, 1) := by decide +kernel
theorem dX9_targets_28 : decode cX9_targets 28 = .ok (.getfield 10, 3) := by decide +kernel
theorem dX9_targets_31 : decode cX9_targets 31 = .ok (.getfield 41, 3) := by decide +kernel
theorem dX9_targets_34 : decode cX9_targets 34 = .ok (.aload_n 3, 1) := by decide +kernel
theorem dX9_targets_35 : decode cX9_targets 35 = .ok (.iload_n 2, 1) := by decide +kernel
theorem dX9_targets_36 : decode cX9_targets 36 = .ok (.invokevirtual 164, 3) := by decide +kernel
theorem dX9_targets_39 : decode cX9_targets 39 = .ok (.ireturn, 1) := by decide +kernel
theorem dX9_hits_0 : decode cX9_hits 0 = .ok (.aload_n 0, 1) := by decide +kernel
theorem dX9_hits_1 : decode cX9_hits 1 = .ok (.getfield 10, 3) := by decide +kernel
theorem dX9_hits_4 : decode cX9_hits 4 = .ok (.getfield 41, 3) := by decide +kernel
theorem dX9_hits_7 : decode cX9_hits 7 = .ok (.iload_n 1, 1) := by decide +kernel
theorem dX9_hits_8 : decode cX9_hits 8 = .ok (.invokevirtual 145, 3) := by decide +kernel
theorem dX9_hits_11 : decode cX9_hits 11 = .ok (.astore 4, 2) := by decide +kernel
theorem dX9_hits_13 : decode cX9_hits 13 = .ok (.aload_n 0, 1) := by decide +kernel
theorem dX9_hits_14 : decode cX9_hits 14 = .ok (.getfield 10, 3) := by decide +kernel
theorem dX9_hits_17 : decode cX9_hits 17 = .ok (.getfield 41, 3) := by decide +kernel
theorem dX9_hits_20 : decode cX9_hits 20 = .ok (.iload_n 3, 1) := by decide +kernel
theorem dX9_hits_21 : decode cX9_hits 21 = .ok (.invokevirtual 145, 3) := by decide +kernel
theorem dX9_hits_24 : decode cX9_hits 24 = .ok (.astore 5, 2) := by decide +kernel
theorem dX9_hits_26 : decode cX9_hits 26 = .ok (.aload 4, 2) := by decide +kernel
theorem dX9_hits_28 : decode cX9_hits 28 = .ok (.ifnull 20, 3) := by decide +kernel
theorem dX9_hits_31 : decode cX9_hits 31 = .ok (.aload 5, 2) := by decide +kernel
theorem dX9_hits_33 : decode cX9_hits 33 = .ok (.ifnull 15, 3) := by decide +kernel
theorem dX9_hits_36 : decode cX9_hits 36 = .ok (.iload_n 1, 1) := by decide +kernel
theorem dX9_hits_37 : decode cX9_hits 37 = .ok (.iload_n 3, 1) := by decide +kernel
theorem dX9_hits_38 : decode cX9_hits 38 = .ok (.if_icmp .eq 10, 3) := by decide +kernel
theorem dX9_hits_41 : decode cX9_hits 41 = .ok (.iload_n 2, 1) := by decide +kernel
theorem dX9_hits_42 : decode cX9_hits 42 = .ok (.invokestatic 159, 3) := by decide +kernel
theorem dX9_hits_45 : decode cX9_hits 45 = .ok (.ifCond .ne 5, 3) := by decide +kernel
theorem dX9_hits_48 : decode cX9_hits 48 = .ok (.iconst (-1), 1) := by decide +kernel
theorem dX9_hits_49 : decode cX9_hits 49 = .ok (.ireturn, 1) := by decide +kernel
theorem dX9_hits_50 : decode cX9_hits 50 = .ok (.aload_n 0, 1) := by decide +kernel
theorem dX9_hits_51 : decode cX9_hits 51 = .ok (.getfield 10, 3) := by decide +kernel
theorem dX9_hits_54 : decode cX9_hits 54 = .ok (.getfield 41, 3) := by decide +kernel
theorem dX9_hits_57 : decode cX9_hits 57 = .ok (.aload 4, 2) := by decide +kernel
theorem dX9_hits_59 : decode cX9_hits 59 = .ok (.iload_n 2, 1) := by decide +kernel
theorem dX9_hits_60 : decode cX9_hits 60 = .ok (.aload 5, 2) := by decide +kernel
theorem dX9_hits_62 : decode cX9_hits 62 = .ok (.invokevirtual 167, 3) := by decide +kernel
theorem dX9_hits_65 : decode cX9_hits 65 = .ok (.istore 6, 2) := by decide +kernel
theorem dX9_hits_67 : decode cX9_hits 67 = .ok (.iload 6, 2) := by decide +kernel
theorem dX9_hits_69 : decode cX9_hits 69 = .ok (.ifCond .ne 8, 3) := by decide +kernel
theorem dX9_hits_72 : decode cX9_hits 72 = .ok (.bipush (-9), 2) := by decide +kernel
theorem dX9_hits_74 : decode cX9_hits 74 = .ok (.goto 10, 3) := by decide +kernel
theorem dX9_hits_77 : decode cX9_hits 77 = .ok (.aload 4, 2) := by decide +kernel
theorem dX9_hits_79 : decode cX9_hits 79 = .ok (.iload 6, 2) := by decide +kernel
theorem dX9_hits_81 : decode cX9_hits 81 = .ok (.invokevirtual 171, 3) := by decide +kernel
theorem dX9_hits_84 : decode cX9_hits 84 = .ok (.ireturn, 1) := by decide +kernel
theorem dX9_way_0 : decode cX9_way 0 = .ok (.aload_n 0, 1) := by decide +kernel
theorem dX9_way_1 : decode cX9_way 1 = .ok (.getfield 10, 3) := by decide +kernel
theorem dX9_way_4 : decode cX9_way 4 = .ok (.getfield 41, 3) := by decide +kernel
theorem dX9_way_7 : decode cX9_way 7 = .ok (.iload_n 1, 1) := by decide +kernel
theorem dX9_way_8 : decode cX9_way 8 = .ok (.invokevirtual 145, 3) := by decide +kernel
theorem dX9_way_11 : decode cX9_way 11 = .ok (.astore 4, 2) := by decide +kernel
theorem dX9_way_13 : decode cX9_way 13 = .ok (.aload 4, 2) := by decide +kernel
theorem dX9_way_15 : decode cX9_way 15 = .ok (.ifnull 19, 3) := by decide +kernel
theorem dX9_way_18 : decode cX9_way 18 = .ok (.iload_n 2, 1) := by decide +kernel
theorem dX9_way_19 : decode cX9_way 19 = .ok (.invokestatic 153, 3) := by decide +kernel
theorem dX9_way_22 : decode cX9_way 22 = .ok (.ifCond .eq 12, 3) := by decide +kernel
theorem dX9_way_25 : decode cX9_way 25 = .ok (.iload_n 3, 1) := by decide +kernel
theorem dX9_way_26 : decode cX9_way 26 = .ok (.ifCond .lt 8, 3) := by decide +kernel
theorem dX9_way_29 : decode cX9_way 29 = .ok (.iload_n 3, 1) := by decide +kernel
theorem dX9_way_30 : decode cX9_way 30 = .ok (.iconst 2, 1) := by decide +kernel
theorem dX9_way_31 : decode cX9_way 31 = .ok (.if_icmp .le 5, 3) := by decide +kernel
theorem dX9_way_34 : decode cX9_way 34 = .ok (.iconst (-1), 1) := by decide +kernel
theorem dX9_way_35 : decode cX9_way 35 = .ok (.ireturn, 1) := by decide +kernel
theorem dX9_way_36 : decode cX9_way 36 = .ok (.aload_n 0, 1) := by decide +kernel
theorem dX9_way_37 : decode cX9_way 37 = .ok (.getfield 33, 3) := by decide +kernel
theorem dX9_way_40 : decode cX9_way 40 = .ok (.aload_n 0, 1) := by decide +kernel
theorem dX9_way_41 : decode cX9_way 41 = .ok (.getfield 10, 3) := by decide +kernel
theorem dX9_way_44 : decode cX9_way 44 = .ok (.getfield 41, 3) := by decide +kernel
theorem dX9_way_47 : decode cX9_way 47 = .ok (.aload 4, 2) := by decide +kernel
theorem dX9_way_49 : decode cX9_way 49 = .ok (.aload_n 0, 1) := by decide +kernel
theorem dX9_way_50 : decode cX9_way 50 = .ok (.getfield 10, 3) := by decide +kernel
theorem dX9_way_53 : decode cX9_way 53 = .ok (.getfield 41, 3) := by decide +kernel
theorem dX9_way_56 : decode cX9_way 56 = .ok (.aload 4, 2) := by decide +kernel
theorem dX9_way_58 : decode cX9_way 58 = .ok (.invokevirtual 174, 3) := by decide +kernel
theorem dX9_way_61 : decode cX9_way 61 = .ok (.invokevirtual 178, 3) := by decide +kernel
theorem dX9_way_64 : decode cX9_way 64 = .ok (.aload_n 0, 1) := by decide +kernel
theorem dX9_way_65 : decode cX9_way 65 = .ok (.getfield 33, 3) := by decide +kernel
theorem dX9_way_68 : decode cX9_way 68 = .ok (.iload_n 2, 1) := by decide +kernel
theorem dX9_way_69 : decode cX9_way 69 = .ok (.iload_n 3, 1) := by decide +kernel
theorem dX9_way_70 : decode cX9_way 70 = .ok (.invokevirtual 182, 3) := by decide +kernel
theorem dX9_way_73 : decode cX9_way 73 = .ok (.ireturn, 1) := by decide +kernel
theorem dX9_reach_0 : decode cX9_reach 0 = .ok (.aload_n 0, 1) := by decide +kernel
theorem dX9_reach_1 : decode cX9_reach 1 = .ok (.getfield 10, 3) := by decide +kernel
theorem dX9_reach_4 : decode cX9_reach 4 = .ok (.getfield 41, 3) := by decide +kernel
theorem dX9_reach_7 : decode cX9_reach 7 = .ok (.iload_n 1, 1) := by decide +kernel
theorem dX9_reach_8 : decode cX9_reach 8 = .ok (.invokevirtual 145, 3) := by decide +kernel
theorem dX9_reach_11 : decode cX9_reach 11 = .ok (.astore_n 2, 1) := by decide +kernel
theorem dX9_reach_12 : decode cX9_reach 12 = .ok (.aload_n 2, 1) := by decide +kernel
theorem dX9_reach_13 : decode cX9_reach 13 = .ok (.ifnonnull 5, 3) := by decide +kernel
theorem dX9_reach_16 : decode cX9_reach 16 = .ok (.iconst (-1), 1) := by decide +kernel
theorem dX9_reach_17 : decode cX9_reach 17 = .ok (.ireturn, 1) := by decide +kernel
theorem dX9_reach_18 : decode cX9_reach 18 = .ok (.aload_n 0, 1) := by decide +kernel
theorem dX9_reach_19 : decode cX9_reach 19 = .ok (.getfield 33, 3) := by decide +kernel
theorem dX9_reach_22 : decode cX9_reach 22 = .ok (.aload_n 0, 1) := by decide +kernel
theorem dX9_reach_23 : decode cX9_reach 23 = .ok (.getfield 10, 3) := by decide +kernel
theorem dX9_reach_26 : decode cX9_reach 26 = .ok (.getfield 41, 3) := by decide +kernel
theorem dX9_reach_29 : decode cX9_reach 29 = .ok (.aload_n 2, 1) := by decide +kernel
theorem dX9_reach_30 : decode cX9_reach 30 = .ok (.aload_n 0, 1) := by decide +kernel
theorem dX9_reach_31 : decode cX9_reach 31 = .ok (.getfield 10, 3) := by decide +kernel
theorem dX9_reach_34 : decode cX9_reach 34 = .ok (.getfield 41, 3) := by decide +kernel
theorem dX9_reach_37 : decode cX9_reach 37 = .ok (.aload_n 2, 1) := by decide +kernel
theorem dX9_reach_38 : decode cX9_reach 38 = .ok (.invokevirtual 174, 3) := by decide +kernel
theorem dX9_reach_41 : decode cX9_reach 41 = .ok (.invokevirtual 178, 3) := by decide +kernel
theorem dX9_reach_44 : decode cX9_reach 44 = .ok (.aload_n 0, 1) := by decide +kernel
theorem dX9_reach_45 : decode cX9_reach 45 = .ok (.getfield 33, 3) := by decide +kernel
theorem dX9_reach_48 : decode cX9_reach 48 = .ok (.invokevirtual 185, 3) := by decide +kernel
theorem dX9_reach_51 : decode cX9_reach 51 = .ok (.ireturn, 1) := by decide +kernel
theorem dX9_windBy_0 : decode cX9_windBy 0 = .ok (.iload_n 1, 1) := by decide +kernel
theorem dX9_windBy_1 : decode cX9_windBy 1 = .ok (.invokestatic 188, 3) := by decide +kernel
theorem dX9_windBy_4 : decode cX9_windBy 4 = .ok (.ifCond .eq 10, 3) := by decide +kernel
theorem dX9_windBy_7 : decode cX9_windBy 7 = .ok (.iload_n 2, 1) := by decide +kernel
theorem dX9_windBy_8 : decode cX9_windBy 8 = .ok (.invokestatic 188, 3) := by decide +kernel
theorem dX9_windBy_11 : decode cX9_windBy 11 = .ok (.ifCond .ne 5, 3) := by decide +kernel
theorem dX9_windBy_14 : decode cX9_windBy 14 = .ok (.iconst (-1), 1) := by decide +kernel
theorem dX9_windBy_15 : decode cX9_windBy 15 = .ok (.ireturn, 1) := by decide +kernel
theorem dX9_windBy_16 : decode cX9_windBy 16 = .ok (.iload_n 1, 1) := by decide +kernel
theorem dX9_windBy_17 : decode cX9_windBy 17 = .ok (.iload_n 2, 1) := by decide +kernel
theorem dX9_windBy_18 : decode cX9_windBy 18 = .ok (.iadd, 1) := by decide +kernel
theorem dX9_windBy_19 : decode cX9_windBy 19 = .ok (.istore_n 3, 1) := by decide +kernel
theorem dX9_windBy_20 : decode cX9_windBy 20 = .ok (.bipush 10, 2) := by decide +kernel
theorem dX9_windBy_22 : decode cX9_windBy 22 = .ok (.aload_n 0, 1) := by decide +kernel
theorem dX9_windBy_23 : decode cX9_windBy 23 = .ok (.getfield 10, 3) := by decide +kernel
theorem dX9_windBy_26 : decode cX9_windBy 26 = .ok (.getfield 41, 3) := by decide +kernel
theorem dX9_windBy_29 : decode cX9_windBy 29 = .ok (.iload_n 3, 1) := by decide +kernel
theorem dX9_windBy_30 : decode cX9_windBy 30 = .ok (.invokevirtual 191, 3) := by decide +kernel
theorem dX9_windBy_33 : decode cX9_windBy 33 = .ok (.imul, 1) := by decide +kernel
theorem dX9_windBy_34 : decode cX9_windBy 34 = .ok (.iload_n 3, 1) := by decide +kernel
theorem dX9_windBy_35 : decode cX9_windBy 35 = .ok (.invokestatic 194, 3) := by decide +kernel
theorem dX9_windBy_38 : decode cX9_windBy 38 = .ok (.iadd, 1) := by decide +kernel
theorem dX9_windBy_39 : decode cX9_windBy 39 = .ok (.ireturn, 1) := by decide +kernel
theorem dX9_threats_0 : decode cX9_threats 0 = .ok (.aload_n 0, 1) := by decide +kernel
theorem dX9_threats_1 : decode cX9_threats 1 = .ok (.getfield 10, 3) := by decide +kernel
theorem dX9_threats_4 : decode cX9_threats 4 = .ok (.getfield 41, 3) := by decide +kernel
theorem dX9_threats_7 : decode cX9_threats 7 = .ok (.iload_n 1, 1) := by decide +kernel
theorem dX9_threats_8 : decode cX9_threats 8 = .ok (.invokevirtual 145, 3) := by decide +kernel
theorem dX9_threats_11 : decode cX9_threats 11 = .ok (.astore_n 2, 1) := by decide +kernel
theorem dX9_threats_12 : decode cX9_threats 12 = .ok (.aload_n 2, 1) := by decide +kernel
theorem dX9_threats_13 : decode cX9_threats 13 = .ok (.ifnonnull 7, 3) := by decide +kernel
theorem dX9_threats_16 : decode cX9_threats 16 = .ok (.iconst (-1), 1) := by decide +kernel
theorem dX9_threats_17 : decode cX9_threats 17 = .ok (.goto 14, 3) := by decide +kernel
theorem dX9_threats_20 : decode cX9_threats 20 = .ok (.aload_n 0, 1) := by decide +kernel
theorem dX9_threats_21 : decode cX9_threats 21 = .ok (.getfield 10, 3) := by decide +kernel
theorem dX9_threats_24 : decode cX9_threats 24 = .ok (.getfield 41, 3) := by decide +kernel
theorem dX9_threats_27 : decode cX9_threats 27 = .ok (.aload_n 2, 1) := by decide +kernel
theorem dX9_threats_28 : decode cX9_threats 28 = .ok (.invokevirtual 204, 3) := by decide +kernel
theorem dX9_threats_31 : decode cX9_threats 31 = .ok (.ireturn, 1) := by decide +kernel
theorem dX9_strength_0 : decode cX9_strength 0 = .ok (.iload_n 1, 1) := by decide +kernel
theorem dX9_strength_1 : decode cX9_strength 1 = .ok (.invokestatic 136, 3) := by decide +kernel
theorem dX9_strength_4 : decode cX9_strength 4 = .ok (.ifCond .eq 17, 3) := by decide +kernel
theorem dX9_strength_7 : decode cX9_strength 7 = .ok (.aload_n 0, 1) := by decide +kernel
theorem dX9_strength_8 : decode cX9_strength 8 = .ok (.getfield 10, 3) := by decide +kernel
theorem dX9_strength_11 : decode cX9_strength 11 = .ok (.getfield 41, 3) := by decide +kernel
theorem dX9_strength_14 : decode cX9_strength 14 = .ok (.iload_n 1, 1) := by decide +kernel
theorem dX9_strength_15 : decode cX9_strength 15 = .ok (.invokevirtual 207, 3) := by decide +kernel
theorem dX9_strength_18 : decode cX9_strength 18 = .ok (.goto 4, 3) := by decide +kernel
theorem dX9_strength_21 : decode cX9_strength 21 = .ok (.iconst (-1), 1) := by decide +kernel
theorem dX9_strength_22 : decode cX9_strength 22 = .ok (.ireturn, 1) := by decide +kernel
theorem dJ6_bitCount_0f7a4_0 : decode cJ6_bitCount_0f7a4 0 = .ok (.iload_n 0, 1) := by decide +kernel
theorem dJ6_bitCount_0f7a4_1 : decode cJ6_bitCount_0f7a4 1 = .ok (.iload_n 0, 1) := by decide +kernel
theorem dJ6_bitCount_0f7a4_2 : decode cJ6_bitCount_0f7a4 2 = .ok (.iconst 1, 1) := by decide +kernel
theorem dJ6_bitCount_0f7a4_3 : decode cJ6_bitCount_0f7a4 3 = .ok (.iushr, 1) := by decide +kernel
theorem dJ6_bitCount_0f7a4_4 : decode cJ6_bitCount_0f7a4 4 = .ok (.ldc_w 265, 3) := by decide +kernel
theorem dJ6_bitCount_0f7a4_7 : decode cJ6_bitCount_0f7a4 7 = .ok (.iand, 1) := by decide +kernel
theorem dJ6_bitCount_0f7a4_8 : decode cJ6_bitCount_0f7a4 8 = .ok (.isub, 1) := by decide +kernel
theorem dJ6_bitCount_0f7a4_9 : decode cJ6_bitCount_0f7a4 9 = .ok (.istore_n 0, 1) := by decide +kernel
theorem dJ6_bitCount_0f7a4_10 : decode cJ6_bitCount_0f7a4 10 = .ok (.iload_n 0, 1) := by decide +kernel
theorem dJ6_bitCount_0f7a4_11 : decode cJ6_bitCount_0f7a4 11 = .ok (.ldc_w 266, 3) := by decide +kernel
theorem dJ6_bitCount_0f7a4_14 : decode cJ6_bitCount_0f7a4 14 = .ok (.iand, 1) := by decide +kernel
theorem dJ6_bitCount_0f7a4_15 : decode cJ6_bitCount_0f7a4 15 = .ok (.iload_n 0, 1) := by decide +kernel
theorem dJ6_bitCount_0f7a4_16 : decode cJ6_bitCount_0f7a4 16 = .ok (.iconst 2, 1) := by decide +kernel
theorem dJ6_bitCount_0f7a4_17 : decode cJ6_bitCount_0f7a4 17 = .ok (.iushr, 1) := by decide +kernel
theorem dJ6_bitCount_0f7a4_18 : decode cJ6_bitCount_0f7a4 18 = .ok (.ldc_w 266, 3) := by decide +kernel
theorem dJ6_bitCount_0f7a4_21 : decode cJ6_bitCount_0f7a4 21 = .ok (.iand, 1) := by decide +kernel
theorem dJ6_bitCount_0f7a4_22 : decode cJ6_bitCount_0f7a4 22 = .ok (.iadd, 1) := by decide +kernel
theorem dJ6_bitCount_0f7a4_23 : decode cJ6_bitCount_0f7a4 23 = .ok (.istore_n 0, 1) := by decide +kernel
theorem dJ6_bitCount_0f7a4_24 : decode cJ6_bitCount_0f7a4 24 = .ok (.iload_n 0, 1) := by decide +kernel
theorem dJ6_bitCount_0f7a4_25 : decode cJ6_bitCount_0f7a4 25 = .ok (.iload_n 0, 1) := by decide +kernel
theorem dJ6_bitCount_0f7a4_26 : decode cJ6_bitCount_0f7a4 26 = .ok (.iconst 4, 1) := by decide +kernel
theorem dJ6_bitCount_0f7a4_27 : decode cJ6_bitCount_0f7a4 27 = .ok (.iushr, 1) := by decide +kernel
theorem dJ6_bitCount_0f7a4_28 : decode cJ6_bitCount_0f7a4 28 = .ok (.iadd, 1) := by decide +kernel
theorem dJ6_bitCount_0f7a4_29 : decode cJ6_bitCount_0f7a4 29 = .ok (.ldc_w 267, 3) := by decide +kernel
theorem dJ6_bitCount_0f7a4_32 : decode cJ6_bitCount_0f7a4 32 = .ok (.iand, 1) := by decide +kernel
theorem dJ6_bitCount_0f7a4_33 : decode cJ6_bitCount_0f7a4 33 = .ok (.istore_n 0, 1) := by decide +kernel
theorem dJ6_bitCount_0f7a4_34 : decode cJ6_bitCount_0f7a4 34 = .ok (.iload_n 0, 1) := by decide +kernel
theorem dJ6_bitCount_0f7a4_35 : decode cJ6_bitCount_0f7a4 35 = .ok (.iload_n 0, 1) := by decide +kernel
theorem dJ6_bitCount_0f7a4_36 : decode cJ6_bitCount_0f7a4 36 = .ok (.bipush 8, 2) := by decide +kernel
theorem dJ6_bitCount_0f7a4_38 : decode cJ6_bitCount_0f7a4 38 = .ok (.iushr, 1) := by decide +kernel
theorem dJ6_bitCount_0f7a4_39 : decode cJ6_bitCount_0f7a4 39 = .ok (.iadd, 1) := by decide +kernel
theorem dJ6_bitCount_0f7a4_40 : decode cJ6_bitCount_0f7a4 40 = .ok (.istore_n 0, 1) := by decide +kernel
theorem dJ6_bitCount_0f7a4_41 : decode cJ6_bitCount_0f7a4 41 = .ok (.iload_n 0, 1) := by decide +kernel
theorem dJ6_bitCount_0f7a4_42 : decode cJ6_bitCount_0f7a4 42 = .ok (.iload_n 0, 1) := by decide +kernel
theorem dJ6_bitCount_0f7a4_43 : decode cJ6_bitCount_0f7a4 43 = .ok (.bipush 16, 2) := by decide +kernel
theorem dJ6_bitCount_0f7a4_45 : decode cJ6_bitCount_0f7a4 45 = .ok (.iushr, 1) := by decide +kernel
theorem dJ6_bitCount_0f7a4_46 : decode cJ6_bitCount_0f7a4 46 = .ok (.iadd, 1) := by decide +kernel
theorem dJ6_bitCount_0f7a4_47 : decode cJ6_bitCount_0f7a4 47 = .ok (.istore_n 0, 1) := by decide +kernel
theorem dJ6_bitCount_0f7a4_48 : decode cJ6_bitCount_0f7a4 48 = .ok (.iload_n 0, 1) := by decide +kernel
theorem dJ6_bitCount_0f7a4_49 : decode cJ6_bitCount_0f7a4 49 = .ok (.bipush 63, 2) := by decide +kernel
theorem dJ6_bitCount_0f7a4_51 : decode cJ6_bitCount_0f7a4 51 = .ok (.iand, 1) := by decide +kernel
theorem dJ6_bitCount_0f7a4_52 : decode cJ6_bitCount_0f7a4 52 = .ok (.ireturn, 1) := by decide +kernel
theorem dJ9_max_7cf53_0 : decode cJ9_max_7cf53 0 = .ok (.iload_n 0, 1) := by decide +kernel
theorem dJ9_max_7cf53_1 : decode cJ9_max_7cf53 1 = .ok (.iload_n 1, 1) := by decide +kernel
theorem dJ9_max_7cf53_2 : decode cJ9_max_7cf53 2 = .ok (.if_icmp .lt 7, 3) := by decide +kernel
theorem dJ9_max_7cf53_5 : decode cJ9_max_7cf53 5 = .ok (.iload_n 0, 1) := by decide +kernel
theorem dJ9_max_7cf53_6 : decode cJ9_max_7cf53 6 = .ok (.goto 4, 3) := by decide +kernel
theorem dJ9_max_7cf53_9 : decode cJ9_max_7cf53 9 = .ok (.iload_n 1, 1) := by decide +kernel
theorem dJ9_max_7cf53_10 : decode cJ9_max_7cf53 10 = .ok (.ireturn, 1) := by decide +kernel
theorem dJ9_min_7cf53_0 : decode cJ9_min_7cf53 0 = .ok (.iload_n 0, 1) := by decide +kernel
theorem dJ9_min_7cf53_1 : decode cJ9_min_7cf53 1 = .ok (.iload_n 1, 1) := by decide +kernel
theorem dJ9_min_7cf53_2 : decode cJ9_min_7cf53 2 = .ok (.if_icmp .gt 7, 3) := by decide +kernel
theorem dJ9_min_7cf53_5 : decode cJ9_min_7cf53 5 = .ok (.iload_n 0, 1) := by decide +kernel
theorem dJ9_min_7cf53_6 : decode cJ9_min_7cf53 6 = .ok (.goto 4, 3) := by decide +kernel
theorem dJ9_min_7cf53_9 : decode cJ9_min_7cf53 9 = .ok (.iload_n 1, 1) := by decide +kernel
theorem dJ9_min_7cf53_10 : decode cJ9_min_7cf53 10 = .ok (.ireturn, 1) := by decide +kernel
theorem dJ7_fill_53178_0 : decode cJ7_fill_53178 0 = .ok (.iconst 0, 1) := by decide +kernel
theorem dJ7_fill_53178_1 : decode cJ7_fill_53178 1 = .ok (.istore_n 2, 1) := by decide +kernel
theorem dJ7_fill_53178_2 : decode cJ7_fill_53178 2 = .ok (.aload_n 0, 1) := by decide +kernel
theorem dJ7_fill_53178_3 : decode cJ7_fill_53178 3 = .ok (.arraylength, 1) := by decide +kernel
theorem dJ7_fill_53178_4 : decode cJ7_fill_53178 4 = .ok (.istore_n 3, 1) := by decide +kernel
theorem dJ7_fill_53178_5 : decode cJ7_fill_53178 5 = .ok (.iload_n 2, 1) := by decide +kernel
theorem dJ7_fill_53178_6 : decode cJ7_fill_53178 6 = .ok (.iload_n 3, 1) := by decide +kernel
theorem dJ7_fill_53178_7 : decode cJ7_fill_53178 7 = .ok (.if_icmp .ge 13, 3) := by decide +kernel
theorem dJ7_fill_53178_10 : decode cJ7_fill_53178 10 = .ok (.aload_n 0, 1) := by decide +kernel
theorem dJ7_fill_53178_11 : decode cJ7_fill_53178 11 = .ok (.iload_n 2, 1) := by decide +kernel
theorem dJ7_fill_53178_12 : decode cJ7_fill_53178 12 = .ok (.iload_n 1, 1) := by decide +kernel
theorem dJ7_fill_53178_13 : decode cJ7_fill_53178 13 = .ok (.iastore, 1) := by decide +kernel
theorem dJ7_fill_53178_14 : decode cJ7_fill_53178 14 = .ok (.iinc 2 1, 3) := by decide +kernel
theorem dJ7_fill_53178_17 : decode cJ7_fill_53178 17 = .ok (.goto (-12), 3) := by decide +kernel
theorem dJ7_fill_53178_20 : decode cJ7_fill_53178 20 = .ok (.return_, 1) := by decide +kernel
end
section
theorem dL_cell_0 : decode cL_cell 0 = .ok (.iload_n 1, 1) := by decide +kernel
theorem dL_cell_1 : decode cL_cell 1 = .ok (.aload_n 0, 1) := by decide +kernel
theorem dL_cell_2 : decode cL_cell 2 = .ok (.arraylength, 1) := by decide +kernel
theorem dL_cell_3 : decode cL_cell 3 = .ok (.if_icmp .ge 9, 3) := by decide +kernel
theorem dL_cell_6 : decode cL_cell 6 = .ok (.aload_n 0, 1) := by decide +kernel
theorem dL_cell_7 : decode cL_cell 7 = .ok (.iload_n 1, 1) := by decide +kernel
theorem dL_cell_8 : decode cL_cell 8 = .ok (.iaload, 1) := by decide +kernel
theorem dL_cell_9 : decode cL_cell 9 = .ok (.goto 10, 3) := by decide +kernel
theorem dL_cell_12 : decode cL_cell 12 = .ok (.ldc 7, 2) := by decide +kernel
theorem dL_cell_14 : decode cL_cell 14 = .ok (.iload_n 1, 1) := by decide +kernel
theorem dL_cell_15 : decode cL_cell 15 = .ok (.imul, 1) := by decide +kernel
theorem dL_cell_16 : decode cL_cell 16 = .ok (.bipush 109, 2) := by decide +kernel
theorem dL_cell_18 : decode cL_cell 18 = .ok (.iadd, 1) := by decide +kernel
theorem dL_cell_19 : decode cL_cell 19 = .ok (.ldc 8, 2) := by decide +kernel
theorem dL_cell_21 : decode cL_cell 21 = .ok (.iand, 1) := by decide +kernel
theorem dL_cell_22 : decode cL_cell 22 = .ok (.ireturn, 1) := by decide +kernel
theorem dL_lays_0 : decode cL_lays 0 = .ok (.iconst 1, 1) := by decide +kernel
theorem dL_lays_1 : decode cL_lays 1 = .ok (.istore_n 2, 1) := by decide +kernel
theorem dL_lays_2 : decode cL_lays 2 = .ok (.iconst 0, 1) := by decide +kernel
theorem dL_lays_3 : decode cL_lays 3 = .ok (.istore_n 3, 1) := by decide +kernel
theorem dL_lays_4 : decode cL_lays 4 = .ok (.iload_n 3, 1) := by decide +kernel
theorem dL_lays_5 : decode cL_lays 5 = .ok (.bipush 8, 2) := by decide +kernel
theorem dL_lays_7 : decode cL_lays 7 = .ok (.if_icmp .ge 65, 3) := by decide +kernel
theorem dL_lays_10 : decode cL_lays 10 = .ok (.iload_n 2, 1) := by decide +kernel
theorem dL_lays_11 : decode cL_lays 11 = .ok (.ifCond .eq 61, 3) := by decide +kernel
theorem dL_lays_14 : decode cL_lays 14 = .ok (.aload_n 1, 1) := by decide +kernel
theorem dL_lays_15 : decode cL_lays 15 = .ok (.iconst 1, 1) := by decide +kernel
theorem dL_lays_16 : decode cL_lays 16 = .ok (.iload_n 3, 1) := by decide +kernel
theorem dL_lays_17 : decode cL_lays 17 = .ok (.iadd, 1) := by decide +kernel
theorem dL_lays_18 : decode cL_lays 18 = .ok (.invokestatic 9, 3) := by decide +kernel
theorem dL_lays_21 : decode cL_lays 21 = .ok (.istore 4, 2) := by decide +kernel
theorem dL_lays_23 : decode cL_lays 23 = .ok (.aload_n 0, 1) := by decide +kernel
theorem dL_lays_24 : decode cL_lays 24 = .ok (.bipush 7, 2) := by decide +kernel
theorem dL_lays_26 : decode cL_lays 26 = .ok (.invokevirtual 15, 3) := by decide +kernel
theorem dL_lays_29 : decode cL_lays 29 = .ok (.istore 5, 2) := by decide +kernel
theorem dL_lays_31 : decode cL_lays 31 = .ok (.aload_n 0, 1) := by decide +kernel
theorem dL_lays_32 : decode cL_lays 32 = .ok (.iload 4, 2) := by decide +kernel
theorem dL_lays_34 : decode cL_lays 34 = .ok (.bipush 81, 2) := by decide +kernel
theorem dL_lays_36 : decode cL_lays 36 = .ok (.irem, 1) := by decide +kernel
theorem dL_lays_37 : decode cL_lays 37 = .ok (.iconst 1, 1) := by decide +kernel
theorem dL_lays_38 : decode cL_lays 38 = .ok (.invokevirtual 21, 3) := by decide +kernel
theorem dL_lays_41 : decode cL_lays 41 = .ok (.iload 5, 2) := by decide +kernel
theorem dL_lays_43 : decode cL_lays 43 = .ok (.if_icmp .lt 21, 3) := by decide +kernel
theorem dL_lays_46 : decode cL_lays 46 = .ok (.aload_n 0, 1) := by decide +kernel
theorem dL_lays_47 : decode cL_lays 47 = .ok (.iload 4, 2) := by decide +kernel
theorem dL_lays_49 : decode cL_lays 49 = .ok (.bipush 81, 2) := by decide +kernel
theorem dL_lays_51 : decode cL_lays 51 = .ok (.irem, 1) := by decide +kernel
theorem dL_lays_52 : decode cL_lays 52 = .ok (.invokevirtual 25, 3) := by decide +kernel
theorem dL_lays_55 : decode cL_lays 55 = .ok (.bipush 8, 2) := by decide +kernel
theorem dL_lays_57 : decode cL_lays 57 = .ok (.if_icmp .ne 7, 3) := by decide +kernel
theorem dL_lays_60 : decode cL_lays 60 = .ok (.iconst 1, 1) := by decide +kernel
theorem dL_lays_61 : decode cL_lays 61 = .ok (.goto 4, 3) := by decide +kernel
theorem dL_lays_64 : decode cL_lays 64 = .ok (.iconst 0, 1) := by decide +kernel
theorem dL_lays_65 : decode cL_lays 65 = .ok (.istore_n 2, 1) := by decide +kernel
theorem dL_lays_66 : decode cL_lays 66 = .ok (.iinc 3 1, 3) := by decide +kernel
theorem dL_lays_69 : decode cL_lays 69 = .ok (.goto (-65), 3) := by decide +kernel
theorem dL_lays_72 : decode cL_lays 72 = .ok (.iconst 0, 1) := by decide +kernel
theorem dL_lays_73 : decode cL_lays 73 = .ok (.istore_n 3, 1) := by decide +kernel
theorem dL_lays_74 : decode cL_lays 74 = .ok (.iload_n 3, 1) := by decide +kernel
theorem dL_lays_75 : decode cL_lays 75 = .ok (.bipush 9, 2) := by decide +kernel
theorem dL_lays_77 : decode cL_lays 77 = .ok (.if_icmp .ge 180, 3) := by decide +kernel
theorem dL_lays_80 : decode cL_lays 80 = .ok (.iload_n 2, 1) := by decide +kernel
theorem dL_lays_81 : decode cL_lays 81 = .ok (.ifCond .eq 176, 3) := by decide +kernel
theorem dL_lays_84 : decode cL_lays 84 = .ok (.aload_n 1, 1) := by decide +kernel
theorem dL_lays_85 : decode cL_lays 85 = .ok (.bipush 9, 2) := by decide +kernel
theorem dL_lays_87 : decode cL_lays 87 = .ok (.iload_n 3, 1) := by decide +kernel
theorem dL_lays_88 : decode cL_lays 88 = .ok (.iadd, 1) := by decide +kernel
theorem dL_lays_89 : decode cL_lays 89 = .ok (.invokestatic 9, 3) := by decide +kernel
theorem dL_lays_92 : decode cL_lays 92 = .ok (.istore 4, 2) := by decide +kernel
theorem dL_lays_94 : decode cL_lays 94 = .ok (.bipush 18, 2) := by decide +kernel
theorem dL_lays_96 : decode cL_lays 96 = .ok (.iload 4, 2) := by decide +kernel
theorem dL_lays_98 : decode cL_lays 98 = .ok (.bipush 45, 2) := by decide +kernel
theorem dL_lays_100 : decode cL_lays 100 = .ok (.irem, 1) := by decide +kernel
theorem dL_lays_101 : decode cL_lays 101 = .ok (.iadd, 1) := by decide +kernel
theorem dL_lays_102 : decode cL_lays 102 = .ok (.istore 5, 2) := by decide +kernel
theorem dL_lays_104 : decode cL_lays 104 = .ok (.aload_n 0, 1) := by decide +kernel
theorem dL_lays_105 : decode cL_lays 105 = .ok (.iconst 5, 1) := by decide +kernel
theorem dL_lays_106 : decode cL_lays 106 = .ok (.invokevirtual 15, 3) := by decide +kernel
theorem dL_lays_109 : decode cL_lays 109 = .ok (.istore 6, 2) := by decide +kernel
theorem dL_lays_111 : decode cL_lays 111 = .ok (.aload_n 0, 1) := by decide +kernel
theorem dL_lays_112 : decode cL_lays 112 = .ok (.iload 5, 2) := by decide +kernel
theorem dL_lays_114 : decode cL_lays 114 = .ok (.invokevirtual 25, 3) := by decide +kernel
theorem dL_lays_117 : decode cL_lays 117 = .ok (.bipush (-9), 2) := by decide +kernel
theorem dL_lays_119 : decode cL_lays 119 = .ok (.if_icmp .ne 7, 3) := by decide +kernel
theorem dL_lays_122 : decode cL_lays 122 = .ok (.iconst 1, 1) := by decide +kernel
theorem dL_lays_123 : decode cL_lays 123 = .ok (.goto 4, 3) := by decide +kernel
theorem dL_lays_126 : decode cL_lays 126 = .ok (.iconst 0, 1) := by decide +kernel
theorem dL_lays_127 : decode cL_lays 127 = .ok (.istore 7, 2) := by decide +kernel
theorem dL_lays_129 : decode cL_lays 129 = .ok (.aload_n 0, 1) := by decide +kernel
theorem dL_lays_130 : decode cL_lays 130 = .ok (.iload_n 3, 1) := by decide +kernel
theorem dL_lays_131 : decode cL_lays 131 = .ok (.iconst 2, 1) := by decide +kernel
theorem dL_lays_132 : decode cL_lays 132 = .ok (.irem, 1) := by decide +kernel
theorem dL_lays_133 : decode cL_lays 133 = .ok (.iload 5, 2) := by decide +kernel
theorem dL_lays_135 : decode cL_lays 135 = .ok (.iload 4, 2) := by decide +kernel
theorem dL_lays_137 : decode cL_lays 137 = .ok (.bipush 6, 2) := by decide +kernel
theorem dL_lays_139 : decode cL_lays 139 = .ok (.ishr, 1) := by decide +kernel
theorem dL_lays_140 : decode cL_lays 140 = .ok (.bipush 6, 2) := by decide +kernel
theorem dL_lays_142 : decode cL_lays 142 = .ok (.irem, 1) := by decide +kernel
theorem dL_lays_143 : decode cL_lays 143 = .ok (.iconst 1, 1) := by decide +kernel
theorem dL_lays_144 : decode cL_lays 144 = .ok (.iload 4, 2) := by decide +kernel
theorem dL_lays_146 : decode cL_lays 146 = .ok (.bipush 9, 2) := by decide +kernel
theorem dL_lays_148 : decode cL_lays 148 = .ok (.ishr, 1) := by decide +kernel
theorem dL_lays_149 : decode cL_lays 149 = .ok (.bipush 8, 2) := by decide +kernel
theorem dL_lays_151 : decode cL_lays 151 = .ok (.irem, 1) := by decide +kernel
theorem dL_lays_152 : decode cL_lays 152 = .ok (.iadd, 1) := by decide +kernel
theorem dL_lays_153 : decode cL_lays 153 = .ok (.iconst 1, 1) := by decide +kernel
theorem dL_lays_154 : decode cL_lays 154 = .ok (.iload 4, 2) := by decide +kernel
theorem dL_lays_156 : decode cL_lays 156 = .ok (.bipush 12, 2) := by decide +kernel
theorem dL_lays_158 : decode cL_lays 158 = .ok (.ishr, 1) := by decide +kernel
theorem dL_lays_159 : decode cL_lays 159 = .ok (.bipush 40, 2) := by decide +kernel
theorem dL_lays_161 : decode cL_lays 161 = .ok (.irem, 1) := by decide +kernel
theorem dL_lays_162 : decode cL_lays 162 = .ok (.iadd, 1) := by decide +kernel
theorem dL_lays_163 : decode cL_lays 163 = .ok (.iload 4, 2) := by decide +kernel
theorem dL_lays_165 : decode cL_lays 165 = .ok (.bipush 18, 2) := by decide +kernel
theorem dL_lays_167 : decode cL_lays 167 = .ok (.ishr, 1) := by decide +kernel
theorem dL_lays_168 : decode cL_lays 168 = .ok (.bipush 10, 2) := by decide +kernel
theorem dL_lays_170 : decode cL_lays 170 = .ok (.irem, 1) := by decide +kernel
theorem dL_lays_171 : decode cL_lays 171 = .ok (.invokevirtual 28, 3) := by decide +kernel
theorem dL_lays_174 : decode cL_lays 174 = .ok (.istore 8, 2) := by decide +kernel
theorem dL_lays_176 : decode cL_lays 176 = .ok (.iload 8, 2) := by decide +kernel
theorem dL_lays_178 : decode cL_lays 178 = .ok (.iload 7, 2) := by decide +kernel
theorem dL_lays_180 : decode cL_lays 180 = .ok (.ifCond .ne 8, 3) := by decide +kernel
theorem dL_lays_183 : decode cL_lays 183 = .ok (.bipush (-2), 2) := by decide +kernel
theorem dL_lays_185 : decode cL_lays 185 = .ok (.goto 17, 3) := by decide +kernel
theorem dL_lays_188 : decode cL_lays 188 = .ok (.iload 6, 2) := by decide +kernel
theorem dL_lays_190 : decode cL_lays 190 = .ok (.bipush 8, 2) := by decide +kernel
theorem dL_lays_192 : decode cL_lays 192 = .ok (.if_icmp .ne 8, 3) := by decide +kernel
theorem dL_lays_195 : decode cL_lays 195 = .ok (.bipush (-3), 2) := by decide +kernel
theorem dL_lays_197 : decode cL_lays 197 = .ok (.goto 5, 3) := by decide +kernel
theorem dL_lays_200 : decode cL_lays 200 = .ok (.iload 6, 2) := by decide +kernel
theorem dL_lays_202 : decode cL_lays 202 = .ok (.if_icmp .ne 47, 3) := by decide +kernel
theorem dL_lays_205 : decode cL_lays 205 = .ok (.iload 8, 2) := by decide +kernel
theorem dL_lays_207 : decode cL_lays 207 = .ok (.ifCond .lt 38, 3) := by decide +kernel
theorem dL_lays_210 : decode cL_lays 210 = .ok (.aload_n 0, 1) := by decide +kernel
theorem dL_lays_211 : decode cL_lays 211 = .ok (.iload 5, 2) := by decide +kernel
theorem dL_lays_213 : decode cL_lays 213 = .ok (.invokevirtual 25, 3) := by decide +kernel
theorem dL_lays_216 : decode cL_lays 216 = .ok (.iload 8, 2) := by decide +kernel
theorem dL_lays_218 : decode cL_lays 218 = .ok (.if_icmp .ne 31, 3) := by decide +kernel
theorem dL_lays_221 : decode cL_lays 221 = .ok (.aload_n 0, 1) := by decide +kernel
theorem dL_lays_222 : decode cL_lays 222 = .ok (.iload 8, 2) := by decide +kernel
theorem dL_lays_224 : decode cL_lays 224 = .ok (.iconst 1, 1) := by decide +kernel
theorem dL_lays_225 : decode cL_lays 225 = .ok (.invokevirtual 32, 3) := by decide +kernel
theorem dL_lays_228 : decode cL_lays 228 = .ok (.iload 5, 2) := by decide +kernel
theorem dL_lays_230 : decode cL_lays 230 = .ok (.if_icmp .ne 19, 3) := by decide +kernel
theorem dL_lays_233 : decode cL_lays 233 = .ok (.aload_n 0, 1) := by decide +kernel
theorem dL_lays_234 : decode cL_lays 234 = .ok (.iload 8, 2) := by decide +kernel
theorem dL_lays_236 : decode cL_lays 236 = .ok (.iconst 3, 1) := by decide +kernel
theorem dL_lays_237 : decode cL_lays 237 = .ok (.invokevirtual 32, 3) := by decide +kernel
theorem dL_lays_240 : decode cL_lays 240 = .ok (.bipush 20, 2) := by decide +kernel
theorem dL_lays_242 : decode cL_lays 242 = .ok (.if_icmp .ne 7, 3) := by decide +kernel
theorem dL_lays_245 : decode cL_lays 245 = .ok (.iconst 1, 1) := by decide +kernel
theorem dL_lays_246 : decode cL_lays 246 = .ok (.goto 4, 3) := by decide +kernel
theorem dL_lays_249 : decode cL_lays 249 = .ok (.iconst 0, 1) := by decide +kernel
theorem dL_lays_250 : decode cL_lays 250 = .ok (.istore_n 2, 1) := by decide +kernel
theorem dL_lays_251 : decode cL_lays 251 = .ok (.iinc 3 1, 3) := by decide +kernel
theorem dL_lays_254 : decode cL_lays 254 = .ok (.goto (-180), 3) := by decide +kernel
theorem dL_lays_257 : decode cL_lays 257 = .ok (.iload_n 2, 1) := by decide +kernel
theorem dL_lays_258 : decode cL_lays 258 = .ok (.ifCond .eq 32, 3) := by decide +kernel
theorem dL_lays_261 : decode cL_lays 261 = .ok (.aload_n 0, 1) := by decide +kernel
theorem dL_lays_262 : decode cL_lays 262 = .ok (.bipush 81, 2) := by decide +kernel
theorem dL_lays_264 : decode cL_lays 264 = .ok (.iconst 1, 1) := by decide +kernel
theorem dL_lays_265 : decode cL_lays 265 = .ok (.invokevirtual 21, 3) := by decide +kernel
theorem dL_lays_268 : decode cL_lays 268 = .ok (.iconst (-1), 1) := by decide +kernel
theorem dL_lays_269 : decode cL_lays 269 = .ok (.if_icmp .ne 21, 3) := by decide +kernel
theorem dL_lays_272 : decode cL_lays 272 = .ok (.aload_n 0, 1) := by decide +kernel
theorem dL_lays_273 : decode cL_lays 273 = .ok (.iconst 2, 1) := by decide +kernel
theorem dL_lays_274 : decode cL_lays 274 = .ok (.iconst 0, 1) := by decide +kernel
theorem dL_lays_275 : decode cL_lays 275 = .ok (.iconst 0, 1) := by decide +kernel
theorem dL_lays_276 : decode cL_lays 276 = .ok (.iconst 1, 1) := by decide +kernel
theorem dL_lays_277 : decode cL_lays 277 = .ok (.iconst 1, 1) := by decide +kernel
theorem dL_lays_278 : decode cL_lays 278 = .ok (.iconst 0, 1) := by decide +kernel
theorem dL_lays_279 : decode cL_lays 279 = .ok (.invokevirtual 28, 3) := by decide +kernel
theorem dL_lays_282 : decode cL_lays 282 = .ok (.iconst (-1), 1) := by decide +kernel
theorem dL_lays_283 : decode cL_lays 283 = .ok (.if_icmp .ne 7, 3) := by decide +kernel
theorem dL_lays_286 : decode cL_lays 286 = .ok (.iconst 1, 1) := by decide +kernel
theorem dL_lays_287 : decode cL_lays 287 = .ok (.goto 4, 3) := by decide +kernel
theorem dL_lays_290 : decode cL_lays 290 = .ok (.iconst 0, 1) := by decide +kernel
theorem dL_lays_291 : decode cL_lays 291 = .ok (.ireturn, 1) := by decide +kernel
theorem dL_ones_0 : decode cL_ones 0 = .ok (.iconst 0, 1) := by decide +kernel
theorem dL_ones_1 : decode cL_ones 1 = .ok (.istore_n 1, 1) := by decide +kernel
theorem dL_ones_2 : decode cL_ones 2 = .ok (.iconst 0, 1) := by decide +kernel
theorem dL_ones_3 : decode cL_ones 3 = .ok (.istore_n 2, 1) := by decide +kernel
theorem dL_ones_4 : decode cL_ones 4 = .ok (.iload_n 2, 1) := by decide +kernel
theorem dL_ones_5 : decode cL_ones 5 = .ok (.bipush 8, 2) := by decide +kernel
theorem dL_ones_7 : decode cL_ones 7 = .ok (.if_icmp .ge 17, 3) := by decide +kernel
theorem dL_ones_10 : decode cL_ones 10 = .ok (.iload_n 1, 1) := by decide +kernel
theorem dL_ones_11 : decode cL_ones 11 = .ok (.iload_n 0, 1) := by decide +kernel
theorem dL_ones_12 : decode cL_ones 12 = .ok (.iload_n 2, 1) := by decide +kernel
theorem dL_ones_13 : decode cL_ones 13 = .ok (.ishr, 1) := by decide +kernel
theorem dL_ones_14 : decode cL_ones 14 = .ok (.iconst 1, 1) := by decide +kernel
theorem dL_ones_15 : decode cL_ones 15 = .ok (.iand, 1) := by decide +kernel
theorem dL_ones_16 : decode cL_ones 16 = .ok (.iadd, 1) := by decide +kernel
theorem dL_ones_17 : decode cL_ones 17 = .ok (.istore_n 1, 1) := by decide +kernel
theorem dL_ones_18 : decode cL_ones 18 = .ok (.iinc 2 1, 3) := by decide +kernel
theorem dL_ones_21 : decode cL_ones 21 = .ok (.goto (-17), 3) := by decide +kernel
theorem dL_ones_24 : decode cL_ones 24 = .ok (.iload_n 1, 1) := by decide +kernel
theorem dL_ones_25 : decode cL_ones 25 = .ok (.ireturn, 1) := by decide +kernel
theorem dL_isAll_0 : decode cL_isAll 0 = .ok (.aload_n 0, 1) := by decide +kernel
theorem dL_isAll_1 : decode cL_isAll 1 = .ok (.bipush 6, 2) := by decide +kernel
theorem dL_isAll_3 : decode cL_isAll 3 = .ok (.invokevirtual 15, 3) := by decide +kernel
theorem dL_isAll_6 : decode cL_isAll 6 = .ok (.istore_n 1, 1) := by decide +kernel
theorem dL_isAll_7 : decode cL_isAll 7 = .ok (.aload_n 0, 1) := by decide +kernel
theorem dL_isAll_8 : decode cL_isAll 8 = .ok (.iconst 0, 1) := by decide +kernel
theorem dL_isAll_9 : decode cL_isAll 9 = .ok (.iconst 3, 1) := by decide +kernel
theorem dL_isAll_10 : decode cL_isAll 10 = .ok (.invokevirtual 35, 3) := by decide +kernel
theorem dL_isAll_13 : decode cL_isAll 13 = .ok (.aload_n 0, 1) := by decide +kernel
theorem dL_isAll_14 : decode cL_isAll 14 = .ok (.iconst 1, 1) := by decide +kernel
theorem dL_isAll_15 : decode cL_isAll 15 = .ok (.iconst 3, 1) := by decide +kernel
theorem dL_isAll_16 : decode cL_isAll 16 = .ok (.invokevirtual 35, 3) := by decide +kernel
theorem dL_isAll_19 : decode cL_isAll 19 = .ok (.iand, 1) := by decide +kernel
theorem dL_isAll_20 : decode cL_isAll 20 = .ok (.ifCond .ne 24, 3) := by decide +kernel
theorem dL_isAll_23 : decode cL_isAll 23 = .ok (.aload_n 0, 1) := by decide +kernel
theorem dL_isAll_24 : decode cL_isAll 24 = .ok (.iconst 0, 1) := by decide +kernel
theorem dL_isAll_25 : decode cL_isAll 25 = .ok (.iconst 3, 1) := by decide +kernel
theorem dL_isAll_26 : decode cL_isAll 26 = .ok (.invokevirtual 35, 3) := by decide +kernel
theorem dL_isAll_29 : decode cL_isAll 29 = .ok (.aload_n 0, 1) := by decide +kernel
theorem dL_isAll_30 : decode cL_isAll 30 = .ok (.iconst 1, 1) := by decide +kernel
theorem dL_isAll_31 : decode cL_isAll 31 = .ok (.iconst 3, 1) := by decide +kernel
theorem dL_isAll_32 : decode cL_isAll 32 = .ok (.invokevirtual 35, 3) := by decide +kernel
theorem dL_isAll_35 : decode cL_isAll 35 = .ok (.ior, 1) := by decide +kernel
theorem dL_isAll_36 : decode cL_isAll 36 = .ok (.iload_n 1, 1) := by decide +kernel
theorem dL_isAll_37 : decode cL_isAll 37 = .ok (.if_icmp .ne 7, 3) := by decide +kernel
theorem dL_isAll_40 : decode cL_isAll 40 = .ok (.iconst 1, 1) := by decide +kernel
theorem dL_isAll_41 : decode cL_isAll 41 = .ok (.goto 4, 3) := by decide +kernel
theorem dL_isAll_44 : decode cL_isAll 44 = .ok (.iconst 0, 1) := by decide +kernel
theorem dL_isAll_45 : decode cL_isAll 45 = .ok (.istore_n 2, 1) := by decide +kernel
theorem dL_isAll_46 : decode cL_isAll 46 = .ok (.iconst 0, 1) := by decide +kernel
theorem dL_isAll_47 : decode cL_isAll 47 = .ok (.istore_n 3, 1) := by decide +kernel
theorem dL_isAll_48 : decode cL_isAll 48 = .ok (.iconst 0, 1) := by decide +kernel
theorem dL_isAll_49 : decode cL_isAll 49 = .ok (.istore 4, 2) := by decide +kernel
theorem dL_isAll_51 : decode cL_isAll 51 = .ok (.iload 4, 2) := by decide +kernel
theorem dL_isAll_53 : decode cL_isAll 53 = .ok (.aload_n 0, 1) := by decide +kernel
theorem dL_isAll_54 : decode cL_isAll 54 = .ok (.iconst 5, 1) := by decide +kernel
theorem dL_isAll_55 : decode cL_isAll 55 = .ok (.invokevirtual 15, 3) := by decide +kernel
theorem dL_isAll_58 : decode cL_isAll 58 = .ok (.if_icmp .ge 369, 3) := by decide +kernel
theorem dL_isAll_61 : decode cL_isAll 61 = .ok (.iload_n 2, 1) := by decide +kernel
theorem dL_isAll_62 : decode cL_isAll 62 = .ok (.ifCond .eq 365, 3) := by decide +kernel
theorem dL_isAll_65 : decode cL_isAll 65 = .ok (.iload_n 1, 1) := by decide +kernel
theorem dL_isAll_66 : decode cL_isAll 66 = .ok (.iload 4, 2) := by decide +kernel
theorem dL_isAll_68 : decode cL_isAll 68 = .ok (.ishr, 1) := by decide +kernel
theorem dL_isAll_69 : decode cL_isAll 69 = .ok (.iconst 1, 1) := by decide +kernel
theorem dL_isAll_70 : decode cL_isAll 70 = .ok (.iand, 1) := by decide +kernel
theorem dL_isAll_71 : decode cL_isAll 71 = .ok (.iconst 1, 1) := by decide +kernel
theorem dL_isAll_72 : decode cL_isAll 72 = .ok (.if_icmp .ne 7, 3) := by decide +kernel
theorem dL_isAll_75 : decode cL_isAll 75 = .ok (.iconst 1, 1) := by decide +kernel
theorem dL_isAll_76 : decode cL_isAll 76 = .ok (.goto 4, 3) := by decide +kernel
theorem dL_isAll_79 : decode cL_isAll 79 = .ok (.iconst 0, 1) := by decide +kernel
theorem dL_isAll_80 : decode cL_isAll 80 = .ok (.istore 5, 2) := by decide +kernel
theorem dL_isAll_82 : decode cL_isAll 82 = .ok (.aload_n 0, 1) := by decide +kernel
theorem dL_isAll_83 : decode cL_isAll 83 = .ok (.iload 4, 2) := by decide +kernel
theorem dL_isAll_85 : decode cL_isAll 85 = .ok (.bipush 7, 2) := by decide +kernel
theorem dL_isAll_87 : decode cL_isAll 87 = .ok (.invokevirtual 32, 3) := by decide +kernel
theorem dL_isAll_90 : decode cL_isAll 90 = .ok (.istore 6, 2) := by decide +kernel
theorem dL_isAll_92 : decode cL_isAll 92 = .ok (.iload_n 3, 1) := by decide +kernel
theorem dL_isAll_93 : decode cL_isAll 93 = .ok (.iload 5, 2) := by decide +kernel
theorem dL_isAll_95 : decode cL_isAll 95 = .ok (.ifCond .eq 13, 3) := by decide +kernel
theorem dL_isAll_98 : decode cL_isAll 98 = .ok (.aload_n 0, 1) := by decide +kernel
theorem dL_isAll_99 : decode cL_isAll 99 = .ok (.iload 4, 2) := by decide +kernel
theorem dL_isAll_101 : decode cL_isAll 101 = .ok (.iconst 3, 1) := by decide +kernel
theorem dL_isAll_102 : decode cL_isAll 102 = .ok (.invokevirtual 32, 3) := by decide +kernel
theorem dL_isAll_105 : decode cL_isAll 105 = .ok (.goto 4, 3) := by decide +kernel
theorem dL_isAll_108 : decode cL_isAll 108 = .ok (.iconst 0, 1) := by decide +kernel
theorem dL_isAll_109 : decode cL_isAll 109 = .ok (.iadd, 1) := by decide +kernel
theorem dL_isAll_110 : decode cL_isAll 110 = .ok (.istore_n 3, 1) := by decide +kernel
theorem dL_isAll_111 : decode cL_isAll 111 = .ok (.iload 5, 2) := by decide +kernel
theorem dL_isAll_113 : decode cL_isAll 113 = .ok (.aload_n 0, 1) := by decide +kernel
theorem dL_isAll_114 : decode cL_isAll 114 = .ok (.iload 4, 2) := by decide +kernel
theorem dL_isAll_116 : decode cL_isAll 116 = .ok (.iconst 1, 1) := by decide +kernel
theorem dL_isAll_117 : decode cL_isAll 117 = .ok (.invokevirtual 32, 3) := by decide +kernel
theorem dL_isAll_120 : decode cL_isAll 120 = .ok (.ifCond .lt 7, 3) := by decide +kernel
theorem dL_isAll_123 : decode cL_isAll 123 = .ok (.iconst 1, 1) := by decide +kernel
theorem dL_isAll_124 : decode cL_isAll 124 = .ok (.goto 4, 3) := by decide +kernel
theorem dL_isAll_127 : decode cL_isAll 127 = .ok (.iconst 0, 1) := by decide +kernel
theorem dL_isAll_128 : decode cL_isAll 128 = .ok (.if_icmp .ne 85, 3) := by decide +kernel
theorem dL_isAll_131 : decode cL_isAll 131 = .ok (.iload 5, 2) := by decide +kernel
theorem dL_isAll_133 : decode cL_isAll 133 = .ok (.aload_n 0, 1) := by decide +kernel
theorem dL_isAll_134 : decode cL_isAll 134 = .ok (.iload 4, 2) := by decide +kernel
theorem dL_isAll_136 : decode cL_isAll 136 = .ok (.iconst 3, 1) := by decide +kernel
theorem dL_isAll_137 : decode cL_isAll 137 = .ok (.invokevirtual 32, 3) := by decide +kernel
theorem dL_isAll_140 : decode cL_isAll 140 = .ok (.ifCond .le 7, 3) := by decide +kernel
theorem dL_isAll_143 : decode cL_isAll 143 = .ok (.iconst 1, 1) := by decide +kernel
theorem dL_isAll_144 : decode cL_isAll 144 = .ok (.goto 4, 3) := by decide +kernel
theorem dL_isAll_147 : decode cL_isAll 147 = .ok (.iconst 0, 1) := by decide +kernel
theorem dL_isAll_148 : decode cL_isAll 148 = .ok (.if_icmp .ne 65, 3) := by decide +kernel
theorem dL_isAll_151 : decode cL_isAll 151 = .ok (.iload 5, 2) := by decide +kernel
theorem dL_isAll_153 : decode cL_isAll 153 = .ok (.ifCond .eq 19, 3) := by decide +kernel
theorem dL_isAll_156 : decode cL_isAll 156 = .ok (.aload_n 0, 1) := by decide +kernel
theorem dL_isAll_157 : decode cL_isAll 157 = .ok (.aload_n 0, 1) := by decide +kernel
theorem dL_isAll_158 : decode cL_isAll 158 = .ok (.iload 4, 2) := by decide +kernel
theorem dL_isAll_160 : decode cL_isAll 160 = .ok (.iconst 1, 1) := by decide +kernel
theorem dL_isAll_161 : decode cL_isAll 161 = .ok (.invokevirtual 32, 3) := by decide +kernel
theorem dL_isAll_164 : decode cL_isAll 164 = .ok (.invokevirtual 25, 3) := by decide +kernel
theorem dL_isAll_167 : decode cL_isAll 167 = .ok (.iload 4, 2) := by decide +kernel
theorem dL_isAll_169 : decode cL_isAll 169 = .ok (.if_icmp .ne 44, 3) := by decide +kernel
theorem dL_isAll_172 : decode cL_isAll 172 = .ok (.iload 6, 2) := by decide +kernel
theorem dL_isAll_174 : decode cL_isAll 174 = .ok (.bipush (-9), 2) := by decide +kernel
theorem dL_isAll_176 : decode cL_isAll 176 = .ok (.if_icmp .eq 33, 3) := by decide +kernel
theorem dL_isAll_179 : decode cL_isAll 179 = .ok (.aload_n 0, 1) := by decide +kernel
theorem dL_isAll_180 : decode cL_isAll 180 = .ok (.iload 6, 2) := by decide +kernel
theorem dL_isAll_182 : decode cL_isAll 182 = .ok (.bipush 7, 2) := by decide +kernel
theorem dL_isAll_184 : decode cL_isAll 184 = .ok (.invokevirtual 32, 3) := by decide +kernel
theorem dL_isAll_187 : decode cL_isAll 187 = .ok (.iload 4, 2) := by decide +kernel
theorem dL_isAll_189 : decode cL_isAll 189 = .ok (.if_icmp .ne 24, 3) := by decide +kernel
theorem dL_isAll_192 : decode cL_isAll 192 = .ok (.aload_n 0, 1) := by decide +kernel
theorem dL_isAll_193 : decode cL_isAll 193 = .ok (.iload 6, 2) := by decide +kernel
theorem dL_isAll_195 : decode cL_isAll 195 = .ok (.iconst 0, 1) := by decide +kernel
theorem dL_isAll_196 : decode cL_isAll 196 = .ok (.invokevirtual 32, 3) := by decide +kernel
theorem dL_isAll_199 : decode cL_isAll 199 = .ok (.aload_n 0, 1) := by decide +kernel
theorem dL_isAll_200 : decode cL_isAll 200 = .ok (.iload 4, 2) := by decide +kernel
theorem dL_isAll_202 : decode cL_isAll 202 = .ok (.iconst 0, 1) := by decide +kernel
theorem dL_isAll_203 : decode cL_isAll 203 = .ok (.invokevirtual 32, 3) := by decide +kernel
theorem dL_isAll_206 : decode cL_isAll 206 = .ok (.if_icmp .eq 7, 3) := by decide +kernel
theorem dL_isAll_209 : decode cL_isAll 209 = .ok (.iconst 1, 1) := by decide +kernel
theorem dL_isAll_210 : decode cL_isAll 210 = .ok (.goto 4, 3) := by decide +kernel
theorem dL_isAll_213 : decode cL_isAll 213 = .ok (.iconst 0, 1) := by decide +kernel
theorem dL_isAll_214 : decode cL_isAll 214 = .ok (.istore_n 2, 1) := by decide +kernel
theorem dL_isAll_215 : decode cL_isAll 215 = .ok (.iload_n 2, 1) := by decide +kernel
theorem dL_isAll_216 : decode cL_isAll 216 = .ok (.ifCond .eq 40, 3) := by decide +kernel
theorem dL_isAll_219 : decode cL_isAll 219 = .ok (.iload 5, 2) := by decide +kernel
theorem dL_isAll_221 : decode cL_isAll 221 = .ok (.ifCond .ne 31, 3) := by decide +kernel
theorem dL_isAll_224 : decode cL_isAll 224 = .ok (.aload_n 0, 1) := by decide +kernel
theorem dL_isAll_225 : decode cL_isAll 225 = .ok (.iload 4, 2) := by decide +kernel
theorem dL_isAll_227 : decode cL_isAll 227 = .ok (.iconst 0, 1) := by decide +kernel
theorem dL_isAll_228 : decode cL_isAll 228 = .ok (.invokevirtual 38, 3) := by decide +kernel
theorem dL_isAll_231 : decode cL_isAll 231 = .ok (.ifCond .ne 25, 3) := by decide +kernel
theorem dL_isAll_234 : decode cL_isAll 234 = .ok (.aload_n 0, 1) := by decide +kernel
theorem dL_isAll_235 : decode cL_isAll 235 = .ok (.iload 4, 2) := by decide +kernel
theorem dL_isAll_237 : decode cL_isAll 237 = .ok (.invokevirtual 41, 3) := by decide +kernel
theorem dL_isAll_240 : decode cL_isAll 240 = .ok (.ifCond .ne 16, 3) := by decide +kernel
theorem dL_isAll_243 : decode cL_isAll 243 = .ok (.aload_n 0, 1) := by decide +kernel
theorem dL_isAll_244 : decode cL_isAll 244 = .ok (.iload 4, 2) := by decide +kernel
theorem dL_isAll_246 : decode cL_isAll 246 = .ok (.invokevirtual 44, 3) := by decide +kernel
theorem dL_isAll_249 : decode cL_isAll 249 = .ok (.ifCond .ne 7, 3) := by decide +kernel
theorem dL_isAll_252 : decode cL_isAll 252 = .ok (.iconst 1, 1) := by decide +kernel
theorem dL_isAll_253 : decode cL_isAll 253 = .ok (.goto 4, 3) := by decide +kernel
theorem dL_isAll_256 : decode cL_isAll 256 = .ok (.iconst 0, 1) := by decide +kernel
theorem dL_isAll_257 : decode cL_isAll 257 = .ok (.istore_n 2, 1) := by decide +kernel
theorem dL_isAll_258 : decode cL_isAll 258 = .ok (.iconst 0, 1) := by decide +kernel
theorem dL_isAll_259 : decode cL_isAll 259 = .ok (.istore 7, 2) := by decide +kernel
theorem dL_isAll_261 : decode cL_isAll 261 = .ok (.iload 7, 2) := by decide +kernel
theorem dL_isAll_263 : decode cL_isAll 263 = .ok (.iconst 2, 1) := by decide +kernel
theorem dL_isAll_264 : decode cL_isAll 264 = .ok (.if_icmp .ge 157, 3) := by decide +kernel
theorem dL_isAll_267 : decode cL_isAll 267 = .ok (.iload_n 2, 1) := by decide +kernel
theorem dL_isAll_268 : decode cL_isAll 268 = .ok (.ifCond .eq 153, 3) := by decide +kernel
theorem dL_isAll_271 : decode cL_isAll 271 = .ok (.aload_n 0, 1) := by decide +kernel
theorem dL_isAll_272 : decode cL_isAll 272 = .ok (.iload 4, 2) := by decide +kernel
theorem dL_isAll_274 : decode cL_isAll 274 = .ok (.iload 7, 2) := by decide +kernel
theorem dL_isAll_276 : decode cL_isAll 276 = .ok (.invokevirtual 38, 3) := by decide +kernel
theorem dL_isAll_279 : decode cL_isAll 279 = .ok (.istore 8, 2) := by decide +kernel
theorem dL_isAll_281 : decode cL_isAll 281 = .ok (.iload 8, 2) := by decide +kernel
theorem dL_isAll_283 : decode cL_isAll 283 = .ok (.invokestatic 47, 3) := by decide +kernel
theorem dL_isAll_286 : decode cL_isAll 286 = .ok (.iconst 2, 1) := by decide +kernel
theorem dL_isAll_287 : decode cL_isAll 287 = .ok (.if_icmp .gt 16, 3) := by decide +kernel
theorem dL_isAll_290 : decode cL_isAll 290 = .ok (.iload 8, 2) := by decide +kernel
theorem dL_isAll_292 : decode cL_isAll 292 = .ok (.iload_n 1, 1) := by decide +kernel
theorem dL_isAll_293 : decode cL_isAll 293 = .ok (.iconst (-1), 1) := by decide +kernel
theorem dL_isAll_294 : decode cL_isAll 294 = .ok (.ixor, 1) := by decide +kernel
theorem dL_isAll_295 : decode cL_isAll 295 = .ok (.iand, 1) := by decide +kernel
theorem dL_isAll_296 : decode cL_isAll 296 = .ok (.ifCond .ne 7, 3) := by decide +kernel
theorem dL_isAll_299 : decode cL_isAll 299 = .ok (.iconst 1, 1) := by decide +kernel
theorem dL_isAll_300 : decode cL_isAll 300 = .ok (.goto 4, 3) := by decide +kernel
theorem dL_isAll_303 : decode cL_isAll 303 = .ok (.iconst 0, 1) := by decide +kernel
theorem dL_isAll_304 : decode cL_isAll 304 = .ok (.istore_n 2, 1) := by decide +kernel
theorem dL_isAll_305 : decode cL_isAll 305 = .ok (.iconst 0, 1) := by decide +kernel
theorem dL_isAll_306 : decode cL_isAll 306 = .ok (.istore 9, 2) := by decide +kernel
theorem dL_isAll_308 : decode cL_isAll 308 = .ok (.iload 9, 2) := by decide +kernel
theorem dL_isAll_310 : decode cL_isAll 310 = .ok (.aload_n 0, 1) := by decide +kernel
theorem dL_isAll_311 : decode cL_isAll 311 = .ok (.iconst 5, 1) := by decide +kernel
theorem dL_isAll_312 : decode cL_isAll 312 = .ok (.invokevirtual 15, 3) := by decide +kernel
theorem dL_isAll_315 : decode cL_isAll 315 = .ok (.if_icmp .ge 100, 3) := by decide +kernel
theorem dL_isAll_318 : decode cL_isAll 318 = .ok (.iload_n 2, 1) := by decide +kernel
theorem dL_isAll_319 : decode cL_isAll 319 = .ok (.ifCond .eq 96, 3) := by decide +kernel
theorem dL_isAll_322 : decode cL_isAll 322 = .ok (.iload 8, 2) := by decide +kernel
theorem dL_isAll_324 : decode cL_isAll 324 = .ok (.iload 9, 2) := by decide +kernel
theorem dL_isAll_326 : decode cL_isAll 326 = .ok (.ishr, 1) := by decide +kernel
theorem dL_isAll_327 : decode cL_isAll 327 = .ok (.iconst 1, 1) := by decide +kernel
theorem dL_isAll_328 : decode cL_isAll 328 = .ok (.iand, 1) := by decide +kernel
theorem dL_isAll_329 : decode cL_isAll 329 = .ok (.iconst 1, 1) := by decide +kernel
theorem dL_isAll_330 : decode cL_isAll 330 = .ok (.if_icmp .ne 7, 3) := by decide +kernel
theorem dL_isAll_333 : decode cL_isAll 333 = .ok (.iconst 1, 1) := by decide +kernel
theorem dL_isAll_334 : decode cL_isAll 334 = .ok (.goto 4, 3) := by decide +kernel
theorem dL_isAll_337 : decode cL_isAll 337 = .ok (.iconst 0, 1) := by decide +kernel
theorem dL_isAll_338 : decode cL_isAll 338 = .ok (.istore 10, 2) := by decide +kernel
theorem dL_isAll_340 : decode cL_isAll 340 = .ok (.iload 4, 2) := by decide +kernel
theorem dL_isAll_342 : decode cL_isAll 342 = .ok (.iload 9, 2) := by decide +kernel
theorem dL_isAll_344 : decode cL_isAll 344 = .ok (.if_icmp .ne 16, 3) := by decide +kernel
theorem dL_isAll_347 : decode cL_isAll 347 = .ok (.iload 10, 2) := by decide +kernel
theorem dL_isAll_349 : decode cL_isAll 349 = .ok (.ifCond .ne 7, 3) := by decide +kernel
theorem dL_isAll_352 : decode cL_isAll 352 = .ok (.iconst 1, 1) := by decide +kernel
theorem dL_isAll_353 : decode cL_isAll 353 = .ok (.goto 55, 3) := by decide +kernel
theorem dL_isAll_356 : decode cL_isAll 356 = .ok (.iconst 0, 1) := by decide +kernel
theorem dL_isAll_357 : decode cL_isAll 357 = .ok (.goto 51, 3) := by decide +kernel
theorem dL_isAll_360 : decode cL_isAll 360 = .ok (.iload 10, 2) := by decide +kernel
theorem dL_isAll_362 : decode cL_isAll 362 = .ok (.aload_n 0, 1) := by decide +kernel
theorem dL_isAll_363 : decode cL_isAll 363 = .ok (.iload 4, 2) := by decide +kernel
theorem dL_isAll_365 : decode cL_isAll 365 = .ok (.iload 7, 2) := by decide +kernel
theorem dL_isAll_367 : decode cL_isAll 367 = .ok (.iload 9, 2) := by decide +kernel
theorem dL_isAll_369 : decode cL_isAll 369 = .ok (.invokevirtual 50, 3) := by decide +kernel
theorem dL_isAll_372 : decode cL_isAll 372 = .ok (.ifCond .lt 7, 3) := by decide +kernel
theorem dL_isAll_375 : decode cL_isAll 375 = .ok (.iconst 1, 1) := by decide +kernel
theorem dL_isAll_376 : decode cL_isAll 376 = .ok (.goto 4, 3) := by decide +kernel
theorem dL_isAll_379 : decode cL_isAll 379 = .ok (.iconst 0, 1) := by decide +kernel
theorem dL_isAll_380 : decode cL_isAll 380 = .ok (.if_icmp .ne 27, 3) := by decide +kernel
theorem dL_isAll_383 : decode cL_isAll 383 = .ok (.iload 10, 2) := by decide +kernel
theorem dL_isAll_385 : decode cL_isAll 385 = .ok (.ifCond .eq 18, 3) := by decide +kernel
theorem dL_isAll_388 : decode cL_isAll 388 = .ok (.aload_n 0, 1) := by decide +kernel
theorem dL_isAll_389 : decode cL_isAll 389 = .ok (.iload 9, 2) := by decide +kernel
theorem dL_isAll_391 : decode cL_isAll 391 = .ok (.invokevirtual 44, 3) := by decide +kernel
theorem dL_isAll_394 : decode cL_isAll 394 = .ok (.iload 4, 2) := by decide +kernel
theorem dL_isAll_396 : decode cL_isAll 396 = .ok (.ishr, 1) := by decide +kernel
theorem dL_isAll_397 : decode cL_isAll 397 = .ok (.iconst 1, 1) := by decide +kernel
theorem dL_isAll_398 : decode cL_isAll 398 = .ok (.iand, 1) := by decide +kernel
theorem dL_isAll_399 : decode cL_isAll 399 = .ok (.iconst 1, 1) := by decide +kernel
theorem dL_isAll_400 : decode cL_isAll 400 = .ok (.if_icmp .ne 7, 3) := by decide +kernel
theorem dL_isAll_403 : decode cL_isAll 403 = .ok (.iconst 1, 1) := by decide +kernel
theorem dL_isAll_404 : decode cL_isAll 404 = .ok (.goto 4, 3) := by decide +kernel
theorem dL_isAll_407 : decode cL_isAll 407 = .ok (.iconst 0, 1) := by decide +kernel
theorem dL_isAll_408 : decode cL_isAll 408 = .ok (.istore_n 2, 1) := by decide +kernel
theorem dL_isAll_409 : decode cL_isAll 409 = .ok (.iinc 9 1, 3) := by decide +kernel
theorem dL_isAll_412 : decode cL_isAll 412 = .ok (.goto (-104), 3) := by decide +kernel
theorem dL_isAll_415 : decode cL_isAll 415 = .ok (.iinc 7 1, 3) := by decide +kernel
theorem dL_isAll_418 : decode cL_isAll 418 = .ok (.goto (-157), 3) := by decide +kernel
theorem dL_isAll_421 : decode cL_isAll 421 = .ok (.iinc 4 1, 3) := by decide +kernel
theorem dL_isAll_424 : decode cL_isAll 424 = .ok (.goto (-373), 3) := by decide +kernel
theorem dL_isAll_427 : decode cL_isAll 427 = .ok (.iload_n 2, 1) := by decide +kernel
theorem dL_isAll_428 : decode cL_isAll 428 = .ok (.ifCond .eq 58, 3) := by decide +kernel
theorem dL_isAll_431 : decode cL_isAll 431 = .ok (.iload_n 3, 1) := by decide +kernel
theorem dL_isAll_432 : decode cL_isAll 432 = .ok (.aload_n 0, 1) := by decide +kernel
theorem dL_isAll_433 : decode cL_isAll 433 = .ok (.iconst 0, 1) := by decide +kernel
theorem dL_isAll_434 : decode cL_isAll 434 = .ok (.iconst 4, 1) := by decide +kernel
theorem dL_isAll_435 : decode cL_isAll 435 = .ok (.invokevirtual 35, 3) := by decide +kernel
theorem dL_isAll_438 : decode cL_isAll 438 = .ok (.aload_n 0, 1) := by decide +kernel
theorem dL_isAll_439 : decode cL_isAll 439 = .ok (.iconst 1, 1) := by decide +kernel
theorem dL_isAll_440 : decode cL_isAll 440 = .ok (.iconst 4, 1) := by decide +kernel
theorem dL_isAll_441 : decode cL_isAll 441 = .ok (.invokevirtual 35, 3) := by decide +kernel
theorem dL_isAll_444 : decode cL_isAll 444 = .ok (.iadd, 1) := by decide +kernel
theorem dL_isAll_445 : decode cL_isAll 445 = .ok (.if_icmp .ne 41, 3) := by decide +kernel
theorem dL_isAll_448 : decode cL_isAll 448 = .ok (.aload_n 0, 1) := by decide +kernel
theorem dL_isAll_449 : decode cL_isAll 449 = .ok (.iconst 0, 1) := by decide +kernel
theorem dL_isAll_450 : decode cL_isAll 450 = .ok (.invokevirtual 54, 3) := by decide +kernel
theorem dL_isAll_453 : decode cL_isAll 453 = .ok (.aload_n 0, 1) := by decide +kernel
theorem dL_isAll_454 : decode cL_isAll 454 = .ok (.iconst 0, 1) := by decide +kernel
theorem dL_isAll_455 : decode cL_isAll 455 = .ok (.iconst 4, 1) := by decide +kernel
theorem dL_isAll_456 : decode cL_isAll 456 = .ok (.invokevirtual 35, 3) := by decide +kernel
theorem dL_isAll_459 : decode cL_isAll 459 = .ok (.iconst 2, 1) := by decide +kernel
theorem dL_isAll_460 : decode cL_isAll 460 = .ok (.idiv, 1) := by decide +kernel
theorem dL_isAll_461 : decode cL_isAll 461 = .ok (.if_icmp .lt 25, 3) := by decide +kernel
theorem dL_isAll_464 : decode cL_isAll 464 = .ok (.aload_n 0, 1) := by decide +kernel
theorem dL_isAll_465 : decode cL_isAll 465 = .ok (.iconst 0, 1) := by decide +kernel
theorem dL_isAll_466 : decode cL_isAll 466 = .ok (.iconst 0, 1) := by decide +kernel
theorem dL_isAll_467 : decode cL_isAll 467 = .ok (.invokevirtual 35, 3) := by decide +kernel
theorem dL_isAll_470 : decode cL_isAll 470 = .ok (.ifCond .le 16, 3) := by decide +kernel
theorem dL_isAll_473 : decode cL_isAll 473 = .ok (.aload_n 0, 1) := by decide +kernel
theorem dL_isAll_474 : decode cL_isAll 474 = .ok (.iconst 1, 1) := by decide +kernel
theorem dL_isAll_475 : decode cL_isAll 475 = .ok (.iconst 0, 1) := by decide +kernel
theorem dL_isAll_476 : decode cL_isAll 476 = .ok (.invokevirtual 35, 3) := by decide +kernel
theorem dL_isAll_479 : decode cL_isAll 479 = .ok (.ifCond .le 7, 3) := by decide +kernel
theorem dL_isAll_482 : decode cL_isAll 482 = .ok (.iconst 1, 1) := by decide +kernel
theorem dL_isAll_483 : decode cL_isAll 483 = .ok (.goto 4, 3) := by decide +kernel
theorem dL_isAll_486 : decode cL_isAll 486 = .ok (.iconst 0, 1) := by decide +kernel
theorem dL_isAll_487 : decode cL_isAll 487 = .ok (.ireturn, 1) := by decide +kernel
theorem dL_isWay_0 : decode cL_isWay 0 = .ok (.iconst 0, 1) := by decide +kernel
theorem dL_isWay_1 : decode cL_isWay 1 = .ok (.istore_n 3, 1) := by decide +kernel
theorem dL_isWay_2 : decode cL_isWay 2 = .ok (.iconst 0, 1) := by decide +kernel
theorem dL_isWay_3 : decode cL_isWay 3 = .ok (.istore 4, 2) := by decide +kernel
theorem dL_isWay_5 : decode cL_isWay 5 = .ok (.iload 4, 2) := by decide +kernel
theorem dL_isWay_7 : decode cL_isWay 7 = .ok (.bipush 81, 2) := by decide +kernel
theorem dL_isWay_9 : decode cL_isWay 9 = .ok (.if_icmp .ge 68, 3) := by decide +kernel
theorem dL_isWay_12 : decode cL_isWay 12 = .ok (.aload_n 0, 1) := by decide +kernel
theorem dL_isWay_13 : decode cL_isWay 13 = .ok (.iload_n 1, 1) := by decide +kernel
theorem dL_isWay_14 : decode cL_isWay 14 = .ok (.iload 4, 2) := by decide +kernel
theorem dL_isWay_16 : decode cL_isWay 16 = .ok (.iconst 0, 1) := by decide +kernel
theorem dL_isWay_17 : decode cL_isWay 17 = .ok (.invokevirtual 57, 3) := by decide +kernel
theorem dL_isWay_20 : decode cL_isWay 20 = .ok (.istore 5, 2) := by decide +kernel
theorem dL_isWay_22 : decode cL_isWay 22 = .ok (.iload_n 3, 1) := by decide +kernel
theorem dL_isWay_23 : decode cL_isWay 23 = .ok (.iload 5, 2) := by decide +kernel
theorem dL_isWay_25 : decode cL_isWay 25 = .ok (.ifCond .le 7, 3) := by decide +kernel
theorem dL_isWay_28 : decode cL_isWay 28 = .ok (.iconst 1, 1) := by decide +kernel
theorem dL_isWay_29 : decode cL_isWay 29 = .ok (.goto 4, 3) := by decide +kernel
theorem dL_isWay_32 : decode cL_isWay 32 = .ok (.iconst 0, 1) := by decide +kernel
theorem dL_isWay_33 : decode cL_isWay 33 = .ok (.iadd, 1) := by decide +kernel
theorem dL_isWay_34 : decode cL_isWay 34 = .ok (.istore_n 3, 1) := by decide +kernel
theorem dL_isWay_35 : decode cL_isWay 35 = .ok (.iload 5, 2) := by decide +kernel
theorem dL_isWay_37 : decode cL_isWay 37 = .ok (.ifCond .le 34, 3) := by decide +kernel
theorem dL_isWay_40 : decode cL_isWay 40 = .ok (.aload_n 0, 1) := by decide +kernel
theorem dL_isWay_41 : decode cL_isWay 41 = .ok (.iload_n 1, 1) := by decide +kernel
theorem dL_isWay_42 : decode cL_isWay 42 = .ok (.iload 4, 2) := by decide +kernel
theorem dL_isWay_44 : decode cL_isWay 44 = .ok (.iconst 1, 1) := by decide +kernel
theorem dL_isWay_45 : decode cL_isWay 45 = .ok (.invokevirtual 57, 3) := by decide +kernel
theorem dL_isWay_48 : decode cL_isWay 48 = .ok (.aload_n 0, 1) := by decide +kernel
theorem dL_isWay_49 : decode cL_isWay 49 = .ok (.iload_n 1, 1) := by decide +kernel
theorem dL_isWay_50 : decode cL_isWay 50 = .ok (.bipush 8, 2) := by decide +kernel
theorem dL_isWay_52 : decode cL_isWay 52 = .ok (.invokevirtual 32, 3) := by decide +kernel
theorem dL_isWay_55 : decode cL_isWay 55 = .ok (.if_icmp .gt 14, 3) := by decide +kernel
theorem dL_isWay_58 : decode cL_isWay 58 = .ok (.aload_n 0, 1) := by decide +kernel
theorem dL_isWay_59 : decode cL_isWay 59 = .ok (.iload 4, 2) := by decide +kernel
theorem dL_isWay_61 : decode cL_isWay 61 = .ok (.invokevirtual 25, 3) := by decide +kernel
theorem dL_isWay_64 : decode cL_isWay 64 = .ok (.bipush (-9), 2) := by decide +kernel
theorem dL_isWay_66 : decode cL_isWay 66 = .ok (.if_icmp .eq 5, 3) := by decide +kernel
theorem dL_isWay_69 : decode cL_isWay 69 = .ok (.iconst 0, 1) := by decide +kernel
theorem dL_isWay_70 : decode cL_isWay 70 = .ok (.ireturn, 1) := by decide +kernel
theorem dL_isWay_71 : decode cL_isWay 71 = .ok (.iinc 4 1, 3) := by decide +kernel
theorem dL_isWay_74 : decode cL_isWay 74 = .ok (.goto (-69), 3) := by decide +kernel
theorem dL_isWay_77 : decode cL_isWay 77 = .ok (.iload_n 2, 1) := by decide +kernel
theorem dL_isWay_78 : decode cL_isWay 78 = .ok (.bipush 81, 2) := by decide +kernel
theorem dL_isWay_80 : decode cL_isWay 80 = .ok (.irem, 1) := by decide +kernel
theorem dL_isWay_81 : decode cL_isWay 81 = .ok (.istore 4, 2) := by decide +kernel
theorem dL_isWay_83 : decode cL_isWay 83 = .ok (.aload_n 0, 1) := by decide +kernel
theorem dL_isWay_84 : decode cL_isWay 84 = .ok (.iload_n 1, 1) := by decide +kernel
theorem dL_isWay_85 : decode cL_isWay 85 = .ok (.iload 4, 2) := by decide +kernel
theorem dL_isWay_87 : decode cL_isWay 87 = .ok (.iconst 0, 1) := by decide +kernel
theorem dL_isWay_88 : decode cL_isWay 88 = .ok (.invokevirtual 57, 3) := by decide +kernel
theorem dL_isWay_91 : decode cL_isWay 91 = .ok (.istore 5, 2) := by decide +kernel
theorem dL_isWay_93 : decode cL_isWay 93 = .ok (.iload_n 3, 1) := by decide +kernel
theorem dL_isWay_94 : decode cL_isWay 94 = .ok (.aload_n 0, 1) := by decide +kernel
theorem dL_isWay_95 : decode cL_isWay 95 = .ok (.iload_n 1, 1) := by decide +kernel
theorem dL_isWay_96 : decode cL_isWay 96 = .ok (.invokevirtual 41, 3) := by decide +kernel
theorem dL_isWay_99 : decode cL_isWay 99 = .ok (.if_icmp .ne 7, 3) := by decide +kernel
theorem dL_isWay_102 : decode cL_isWay 102 = .ok (.iconst 1, 1) := by decide +kernel
theorem dL_isWay_103 : decode cL_isWay 103 = .ok (.goto 4, 3) := by decide +kernel
theorem dL_isWay_106 : decode cL_isWay 106 = .ok (.iconst 0, 1) := by decide +kernel
theorem dL_isWay_107 : decode cL_isWay 107 = .ok (.istore 6, 2) := by decide +kernel
theorem dL_isWay_109 : decode cL_isWay 109 = .ok (.iload 6, 2) := by decide +kernel
theorem dL_isWay_111 : decode cL_isWay 111 = .ok (.ifCond .eq 29, 3) := by decide +kernel
theorem dL_isWay_114 : decode cL_isWay 114 = .ok (.iload 5, 2) := by decide +kernel
theorem dL_isWay_116 : decode cL_isWay 116 = .ok (.ifCond .lt 24, 3) := by decide +kernel
theorem dL_isWay_119 : decode cL_isWay 119 = .ok (.aload_n 0, 1) := by decide +kernel
theorem dL_isWay_120 : decode cL_isWay 120 = .ok (.iconst 1, 1) := by decide +kernel
theorem dL_isWay_121 : decode cL_isWay 121 = .ok (.invokevirtual 15, 3) := by decide +kernel
theorem dL_isWay_124 : decode cL_isWay 124 = .ok (.ifCond .eq 16, 3) := by decide +kernel
theorem dL_isWay_127 : decode cL_isWay 127 = .ok (.aload_n 0, 1) := by decide +kernel
theorem dL_isWay_128 : decode cL_isWay 128 = .ok (.iload_n 1, 1) := by decide +kernel
theorem dL_isWay_129 : decode cL_isWay 129 = .ok (.bipush 10, 2) := by decide +kernel
theorem dL_isWay_131 : decode cL_isWay 131 = .ok (.invokevirtual 32, 3) := by decide +kernel
theorem dL_isWay_134 : decode cL_isWay 134 = .ok (.iconst 2, 1) := by decide +kernel
theorem dL_isWay_135 : decode cL_isWay 135 = .ok (.irem, 1) := by decide +kernel
theorem dL_isWay_136 : decode cL_isWay 136 = .ok (.iconst 1, 1) := by decide +kernel
theorem dL_isWay_137 : decode cL_isWay 137 = .ok (.if_icmp .ne 26, 3) := by decide +kernel
theorem dL_isWay_140 : decode cL_isWay 140 = .ok (.iload 6, 2) := by decide +kernel
theorem dL_isWay_142 : decode cL_isWay 142 = .ok (.ifCond .eq 19, 3) := by decide +kernel
theorem dL_isWay_145 : decode cL_isWay 145 = .ok (.iload 5, 2) := by decide +kernel
theorem dL_isWay_147 : decode cL_isWay 147 = .ok (.ifCond .gt 10, 3) := by decide +kernel
theorem dL_isWay_150 : decode cL_isWay 150 = .ok (.iload 5, 2) := by decide +kernel
theorem dL_isWay_152 : decode cL_isWay 152 = .ok (.bipush (-9), 2) := by decide +kernel
theorem dL_isWay_154 : decode cL_isWay 154 = .ok (.if_icmp .ne 7, 3) := by decide +kernel
theorem dL_isWay_157 : decode cL_isWay 157 = .ok (.iconst 1, 1) := by decide +kernel
theorem dL_isWay_158 : decode cL_isWay 158 = .ok (.goto 4, 3) := by decide +kernel
theorem dL_isWay_161 : decode cL_isWay 161 = .ok (.iconst 0, 1) := by decide +kernel
theorem dL_isWay_162 : decode cL_isWay 162 = .ok (.ireturn, 1) := by decide +kernel
theorem dL_isWay_163 : decode cL_isWay 163 = .ok (.aload_n 0, 1) := by decide +kernel
theorem dL_isWay_164 : decode cL_isWay 164 = .ok (.iload_n 1, 1) := by decide +kernel
theorem dL_isWay_165 : decode cL_isWay 165 = .ok (.iload 4, 2) := by decide +kernel
theorem dL_isWay_167 : decode cL_isWay 167 = .ok (.iconst 2, 1) := by decide +kernel
theorem dL_isWay_168 : decode cL_isWay 168 = .ok (.invokevirtual 57, 3) := by decide +kernel
theorem dL_isWay_171 : decode cL_isWay 171 = .ok (.istore 7, 2) := by decide +kernel
theorem dL_isWay_173 : decode cL_isWay 173 = .ok (.aload_n 0, 1) := by decide +kernel
theorem dL_isWay_174 : decode cL_isWay 174 = .ok (.iload_n 1, 1) := by decide +kernel
theorem dL_isWay_175 : decode cL_isWay 175 = .ok (.iload 5, 2) := by decide +kernel
theorem dL_isWay_177 : decode cL_isWay 177 = .ok (.invokevirtual 60, 3) := by decide +kernel
theorem dL_isWay_180 : decode cL_isWay 180 = .ok (.iload 4, 2) := by decide +kernel
theorem dL_isWay_182 : decode cL_isWay 182 = .ok (.if_icmp .ne 54, 3) := by decide +kernel
theorem dL_isWay_185 : decode cL_isWay 185 = .ok (.aload_n 0, 1) := by decide +kernel
theorem dL_isWay_186 : decode cL_isWay 186 = .ok (.iload_n 1, 1) := by decide +kernel
theorem dL_isWay_187 : decode cL_isWay 187 = .ok (.iconst 1, 1) := by decide +kernel
theorem dL_isWay_188 : decode cL_isWay 188 = .ok (.invokevirtual 32, 3) := by decide +kernel
theorem dL_isWay_191 : decode cL_isWay 191 = .ok (.iload 4, 2) := by decide +kernel
theorem dL_isWay_193 : decode cL_isWay 193 = .ok (.if_icmp .ne 43, 3) := by decide +kernel
theorem dL_isWay_196 : decode cL_isWay 196 = .ok (.aload_n 0, 1) := by decide +kernel
theorem dL_isWay_197 : decode cL_isWay 197 = .ok (.iload_n 1, 1) := by decide +kernel
theorem dL_isWay_198 : decode cL_isWay 198 = .ok (.iconst 2, 1) := by decide +kernel
theorem dL_isWay_199 : decode cL_isWay 199 = .ok (.invokevirtual 32, 3) := by decide +kernel
theorem dL_isWay_202 : decode cL_isWay 202 = .ok (.iload 7, 2) := by decide +kernel
theorem dL_isWay_204 : decode cL_isWay 204 = .ok (.if_icmp .ne 32, 3) := by decide +kernel
theorem dL_isWay_207 : decode cL_isWay 207 = .ok (.aload_n 0, 1) := by decide +kernel
theorem dL_isWay_208 : decode cL_isWay 208 = .ok (.iload_n 1, 1) := by decide +kernel
theorem dL_isWay_209 : decode cL_isWay 209 = .ok (.iload 5, 2) := by decide +kernel
theorem dL_isWay_211 : decode cL_isWay 211 = .ok (.invokevirtual 60, 3) := by decide +kernel
theorem dL_isWay_214 : decode cL_isWay 214 = .ok (.bipush (-2), 2) := by decide +kernel
theorem dL_isWay_216 : decode cL_isWay 216 = .ok (.if_icmp .ne 20, 3) := by decide +kernel
theorem dL_isWay_219 : decode cL_isWay 219 = .ok (.aload_n 0, 1) := by decide +kernel
theorem dL_isWay_220 : decode cL_isWay 220 = .ok (.iload_n 1, 1) := by decide +kernel
theorem dL_isWay_221 : decode cL_isWay 221 = .ok (.bipush 10, 2) := by decide +kernel
theorem dL_isWay_223 : decode cL_isWay 223 = .ok (.invokevirtual 32, 3) := by decide +kernel
theorem dL_isWay_226 : decode cL_isWay 226 = .ok (.iconst 2, 1) := by decide +kernel
theorem dL_isWay_227 : decode cL_isWay 227 = .ok (.irem, 1) := by decide +kernel
theorem dL_isWay_228 : decode cL_isWay 228 = .ok (.iconst 1, 1) := by decide +kernel
theorem dL_isWay_229 : decode cL_isWay 229 = .ok (.if_icmp .ne 7, 3) := by decide +kernel
theorem dL_isWay_232 : decode cL_isWay 232 = .ok (.iconst 1, 1) := by decide +kernel
theorem dL_isWay_233 : decode cL_isWay 233 = .ok (.goto 4, 3) := by decide +kernel
theorem dL_isWay_236 : decode cL_isWay 236 = .ok (.iconst 0, 1) := by decide +kernel
theorem dL_isWay_237 : decode cL_isWay 237 = .ok (.istore 6, 2) := by decide +kernel
theorem dL_isWay_239 : decode cL_isWay 239 = .ok (.iload 6, 2) := by decide +kernel
theorem dL_isWay_241 : decode cL_isWay 241 = .ok (.ifCond .eq 34, 3) := by decide +kernel
theorem dL_isWay_244 : decode cL_isWay 244 = .ok (.iload_n 2, 1) := by decide +kernel
theorem dL_isWay_245 : decode cL_isWay 245 = .ok (.bipush 8, 2) := by decide +kernel
theorem dL_isWay_247 : decode cL_isWay 247 = .ok (.ishr, 1) := by decide +kernel
theorem dL_isWay_248 : decode cL_isWay 248 = .ok (.iconst 2, 1) := by decide +kernel
theorem dL_isWay_249 : decode cL_isWay 249 = .ok (.irem, 1) := by decide +kernel
theorem dL_isWay_250 : decode cL_isWay 250 = .ok (.ifCond .eq 21, 3) := by decide +kernel
theorem dL_isWay_253 : decode cL_isWay 253 = .ok (.aload_n 0, 1) := by decide +kernel
theorem dL_isWay_254 : decode cL_isWay 254 = .ok (.invokevirtual 63, 3) := by decide +kernel
theorem dL_isWay_257 : decode cL_isWay 257 = .ok (.ifCond .lt 18, 3) := by decide +kernel
theorem dL_isWay_260 : decode cL_isWay 260 = .ok (.aload_n 0, 1) := by decide +kernel
theorem dL_isWay_261 : decode cL_isWay 261 = .ok (.iload_n 1, 1) := by decide +kernel
theorem dL_isWay_262 : decode cL_isWay 262 = .ok (.iconst 1, 1) := by decide +kernel
theorem dL_isWay_263 : decode cL_isWay 263 = .ok (.invokevirtual 32, 3) := by decide +kernel
theorem dL_isWay_266 : decode cL_isWay 266 = .ok (.iload 4, 2) := by decide +kernel
theorem dL_isWay_268 : decode cL_isWay 268 = .ok (.if_icmp .eq 7, 3) := by decide +kernel
theorem dL_isWay_271 : decode cL_isWay 271 = .ok (.iconst 1, 1) := by decide +kernel
theorem dL_isWay_272 : decode cL_isWay 272 = .ok (.goto 4, 3) := by decide +kernel
theorem dL_isWay_275 : decode cL_isWay 275 = .ok (.iconst 0, 1) := by decide +kernel
theorem dL_isWay_276 : decode cL_isWay 276 = .ok (.ireturn, 1) := by decide +kernel
theorem dL_acts_0 : decode cL_acts 0 = .ok (.aload_n 0, 1) := by decide +kernel
theorem dL_acts_1 : decode cL_acts 1 = .ok (.iconst 5, 1) := by decide +kernel
theorem dL_acts_2 : decode cL_acts 2 = .ok (.invokevirtual 15, 3) := by decide +kernel
theorem dL_acts_5 : decode cL_acts 5 = .ok (.istore_n 2, 1) := by decide +kernel
theorem dL_acts_6 : decode cL_acts 6 = .ok (.iload_n 1, 1) := by decide +kernel
theorem dL_acts_7 : decode cL_acts 7 = .ok (.iload_n 2, 1) := by decide +kernel
theorem dL_acts_8 : decode cL_acts 8 = .ok (.irem, 1) := by decide +kernel
theorem dL_acts_9 : decode cL_acts 9 = .ok (.istore_n 3, 1) := by decide +kernel
theorem dL_acts_10 : decode cL_acts 10 = .ok (.iload_n 1, 1) := by decide +kernel
theorem dL_acts_11 : decode cL_acts 11 = .ok (.iconst 3, 1) := by decide +kernel
theorem dL_acts_12 : decode cL_acts 12 = .ok (.ishr, 1) := by decide +kernel
theorem dL_acts_13 : decode cL_acts 13 = .ok (.iload_n 2, 1) := by decide +kernel
theorem dL_acts_14 : decode cL_acts 14 = .ok (.irem, 1) := by decide +kernel
theorem dL_acts_15 : decode cL_acts 15 = .ok (.istore 4, 2) := by decide +kernel
theorem dL_acts_17 : decode cL_acts 17 = .ok (.iload_n 1, 1) := by decide +kernel
theorem dL_acts_18 : decode cL_acts 18 = .ok (.bipush 6, 2) := by decide +kernel
theorem dL_acts_20 : decode cL_acts 20 = .ok (.ishr, 1) := by decide +kernel
theorem dL_acts_21 : decode cL_acts 21 = .ok (.iconst 2, 1) := by decide +kernel
theorem dL_acts_22 : decode cL_acts 22 = .ok (.irem, 1) := by decide +kernel
theorem dL_acts_23 : decode cL_acts 23 = .ok (.istore 5, 2) := by decide +kernel
theorem dL_acts_25 : decode cL_acts 25 = .ok (.iload_n 1, 1) := by decide +kernel
theorem dL_acts_26 : decode cL_acts 26 = .ok (.bipush 7, 2) := by decide +kernel
theorem dL_acts_28 : decode cL_acts 28 = .ok (.ishr, 1) := by decide +kernel
theorem dL_acts_29 : decode cL_acts 29 = .ok (.iconst 4, 1) := by decide +kernel
theorem dL_acts_30 : decode cL_acts 30 = .ok (.irem, 1) := by decide +kernel
theorem dL_acts_31 : decode cL_acts 31 = .ok (.ifCond .ne 13, 3) := by decide +kernel
theorem dL_acts_34 : decode cL_acts 34 = .ok (.aload_n 0, 1) := by decide +kernel
theorem dL_acts_35 : decode cL_acts 35 = .ok (.iload_n 3, 1) := by decide +kernel
theorem dL_acts_36 : decode cL_acts 36 = .ok (.iload_n 1, 1) := by decide +kernel
theorem dL_acts_37 : decode cL_acts 37 = .ok (.bipush 9, 2) := by decide +kernel
theorem dL_acts_39 : decode cL_acts 39 = .ok (.ishr, 1) := by decide +kernel
theorem dL_acts_40 : decode cL_acts 40 = .ok (.invokestatic 67, 3) := by decide +kernel
theorem dL_acts_43 : decode cL_acts 43 = .ok (.ireturn, 1) := by decide +kernel
theorem dL_acts_44 : decode cL_acts 44 = .ok (.iload_n 1, 1) := by decide +kernel
theorem dL_acts_45 : decode cL_acts 45 = .ok (.bipush 7, 2) := by decide +kernel
theorem dL_acts_47 : decode cL_acts 47 = .ok (.ishr, 1) := by decide +kernel
theorem dL_acts_48 : decode cL_acts 48 = .ok (.iconst 4, 1) := by decide +kernel
theorem dL_acts_49 : decode cL_acts 49 = .ok (.irem, 1) := by decide +kernel
theorem dL_acts_50 : decode cL_acts 50 = .ok (.iconst 1, 1) := by decide +kernel
theorem dL_acts_51 : decode cL_acts 51 = .ok (.if_icmp .ne 174, 3) := by decide +kernel
theorem dL_acts_54 : decode cL_acts 54 = .ok (.iload_n 3, 1) := by decide +kernel
theorem dL_acts_55 : decode cL_acts 55 = .ok (.iload 4, 2) := by decide +kernel
theorem dL_acts_57 : decode cL_acts 57 = .ok (.if_icmp .ne 7, 3) := by decide +kernel
theorem dL_acts_60 : decode cL_acts 60 = .ok (.iconst (-1), 1) := by decide +kernel
theorem dL_acts_61 : decode cL_acts 61 = .ok (.goto 12, 3) := by decide +kernel
theorem dL_acts_64 : decode cL_acts 64 = .ok (.aload_n 0, 1) := by decide +kernel
theorem dL_acts_65 : decode cL_acts 65 = .ok (.iload_n 3, 1) := by decide +kernel
theorem dL_acts_66 : decode cL_acts 66 = .ok (.iload 5, 2) := by decide +kernel
theorem dL_acts_68 : decode cL_acts 68 = .ok (.iload 4, 2) := by decide +kernel
theorem dL_acts_70 : decode cL_acts 70 = .ok (.invokevirtual 50, 3) := by decide +kernel
theorem dL_acts_73 : decode cL_acts 73 = .ok (.istore 6, 2) := by decide +kernel
theorem dL_acts_75 : decode cL_acts 75 = .ok (.iload 6, 2) := by decide +kernel
theorem dL_acts_77 : decode cL_acts 77 = .ok (.ifCond .lt 31, 3) := by decide +kernel
theorem dL_acts_80 : decode cL_acts 80 = .ok (.aload_n 0, 1) := by decide +kernel
theorem dL_acts_81 : decode cL_acts 81 = .ok (.iconst 1, 1) := by decide +kernel
theorem dL_acts_82 : decode cL_acts 82 = .ok (.invokevirtual 15, 3) := by decide +kernel
theorem dL_acts_85 : decode cL_acts 85 = .ok (.iconst 1, 1) := by decide +kernel
theorem dL_acts_86 : decode cL_acts 86 = .ok (.if_icmp .ne 22, 3) := by decide +kernel
theorem dL_acts_89 : decode cL_acts 89 = .ok (.aload_n 0, 1) := by decide +kernel
theorem dL_acts_90 : decode cL_acts 90 = .ok (.iload_n 3, 1) := by decide +kernel
theorem dL_acts_91 : decode cL_acts 91 = .ok (.bipush 9, 2) := by decide +kernel
theorem dL_acts_93 : decode cL_acts 93 = .ok (.invokevirtual 32, 3) := by decide +kernel
theorem dL_acts_96 : decode cL_acts 96 = .ok (.iload 5, 2) := by decide +kernel
theorem dL_acts_98 : decode cL_acts 98 = .ok (.ishr, 1) := by decide +kernel
theorem dL_acts_99 : decode cL_acts 99 = .ok (.iconst 1, 1) := by decide +kernel
theorem dL_acts_100 : decode cL_acts 100 = .ok (.iand, 1) := by decide +kernel
theorem dL_acts_101 : decode cL_acts 101 = .ok (.ifCond .ne 7, 3) := by decide +kernel
theorem dL_acts_104 : decode cL_acts 104 = .ok (.iconst 1, 1) := by decide +kernel
theorem dL_acts_105 : decode cL_acts 105 = .ok (.goto 4, 3) := by decide +kernel
theorem dL_acts_108 : decode cL_acts 108 = .ok (.iconst 0, 1) := by decide +kernel
theorem dL_acts_109 : decode cL_acts 109 = .ok (.istore 7, 2) := by decide +kernel
theorem dL_acts_111 : decode cL_acts 111 = .ok (.aload_n 0, 1) := by decide +kernel
theorem dL_acts_112 : decode cL_acts 112 = .ok (.iload 4, 2) := by decide +kernel
theorem dL_acts_114 : decode cL_acts 114 = .ok (.iconst 3, 1) := by decide +kernel
theorem dL_acts_115 : decode cL_acts 115 = .ok (.invokevirtual 32, 3) := by decide +kernel
theorem dL_acts_118 : decode cL_acts 118 = .ok (.istore 8, 2) := by decide +kernel
theorem dL_acts_120 : decode cL_acts 120 = .ok (.aload_n 0, 1) := by decide +kernel
theorem dL_acts_121 : decode cL_acts 121 = .ok (.iload_n 3, 1) := by decide +kernel
theorem dL_acts_122 : decode cL_acts 122 = .ok (.iload 5, 2) := by decide +kernel
theorem dL_acts_124 : decode cL_acts 124 = .ok (.iload 4, 2) := by decide +kernel
theorem dL_acts_126 : decode cL_acts 126 = .ok (.invokevirtual 71, 3) := by decide +kernel
theorem dL_acts_129 : decode cL_acts 129 = .ok (.istore 9, 2) := by decide +kernel
theorem dL_acts_131 : decode cL_acts 131 = .ok (.iload 9, 2) := by decide +kernel
theorem dL_acts_133 : decode cL_acts 133 = .ok (.iload_n 3, 1) := by decide +kernel
theorem dL_acts_134 : decode cL_acts 134 = .ok (.iload 4, 2) := by decide +kernel
theorem dL_acts_136 : decode cL_acts 136 = .ok (.if_icmp .ne 7, 3) := by decide +kernel
theorem dL_acts_139 : decode cL_acts 139 = .ok (.iconst (-1), 1) := by decide +kernel
theorem dL_acts_140 : decode cL_acts 140 = .ok (.goto 15, 3) := by decide +kernel
theorem dL_acts_143 : decode cL_acts 143 = .ok (.iload 7, 2) := by decide +kernel
theorem dL_acts_145 : decode cL_acts 145 = .ok (.ifCond .eq 8, 3) := by decide +kernel
theorem dL_acts_148 : decode cL_acts 148 = .ok (.iload 6, 2) := by decide +kernel
theorem dL_acts_150 : decode cL_acts 150 = .ok (.goto 5, 3) := by decide +kernel
theorem dL_acts_153 : decode cL_acts 153 = .ok (.bipush (-2), 2) := by decide +kernel
theorem dL_acts_155 : decode cL_acts 155 = .ok (.if_icmp .ne 68, 3) := by decide +kernel
theorem dL_acts_158 : decode cL_acts 158 = .ok (.iload 7, 2) := by decide +kernel
theorem dL_acts_160 : decode cL_acts 160 = .ok (.ifCond .eq 59, 3) := by decide +kernel
theorem dL_acts_163 : decode cL_acts 163 = .ok (.aload_n 0, 1) := by decide +kernel
theorem dL_acts_164 : decode cL_acts 164 = .ok (.iload 4, 2) := by decide +kernel
theorem dL_acts_166 : decode cL_acts 166 = .ok (.iconst 3, 1) := by decide +kernel
theorem dL_acts_167 : decode cL_acts 167 = .ok (.invokevirtual 32, 3) := by decide +kernel
theorem dL_acts_170 : decode cL_acts 170 = .ok (.iload 6, 2) := by decide +kernel
theorem dL_acts_172 : decode cL_acts 172 = .ok (.iload 8, 2) := by decide +kernel
theorem dL_acts_174 : decode cL_acts 174 = .ok (.if_icmp .le 7, 3) := by decide +kernel
theorem dL_acts_177 : decode cL_acts 177 = .ok (.iconst 0, 1) := by decide +kernel
theorem dL_acts_178 : decode cL_acts 178 = .ok (.goto 8, 3) := by decide +kernel
theorem dL_acts_181 : decode cL_acts 181 = .ok (.iload 8, 2) := by decide +kernel
theorem dL_acts_183 : decode cL_acts 183 = .ok (.iload 6, 2) := by decide +kernel
theorem dL_acts_185 : decode cL_acts 185 = .ok (.isub, 1) := by decide +kernel
theorem dL_acts_186 : decode cL_acts 186 = .ok (.if_icmp .ne 37, 3) := by decide +kernel
theorem dL_acts_189 : decode cL_acts 189 = .ok (.aload_n 0, 1) := by decide +kernel
theorem dL_acts_190 : decode cL_acts 190 = .ok (.iload_n 3, 1) := by decide +kernel
theorem dL_acts_191 : decode cL_acts 191 = .ok (.iload 5, 2) := by decide +kernel
theorem dL_acts_193 : decode cL_acts 193 = .ok (.iload 4, 2) := by decide +kernel
theorem dL_acts_195 : decode cL_acts 195 = .ok (.invokevirtual 71, 3) := by decide +kernel
theorem dL_acts_198 : decode cL_acts 198 = .ok (.bipush (-2), 2) := by decide +kernel
theorem dL_acts_200 : decode cL_acts 200 = .ok (.if_icmp .ne 23, 3) := by decide +kernel
theorem dL_acts_203 : decode cL_acts 203 = .ok (.aload_n 0, 1) := by decide +kernel
theorem dL_acts_204 : decode cL_acts 204 = .ok (.iload_n 3, 1) := by decide +kernel
theorem dL_acts_205 : decode cL_acts 205 = .ok (.bipush 9, 2) := by decide +kernel
theorem dL_acts_207 : decode cL_acts 207 = .ok (.invokevirtual 32, 3) := by decide +kernel
theorem dL_acts_210 : decode cL_acts 210 = .ok (.iload 5, 2) := by decide +kernel
theorem dL_acts_212 : decode cL_acts 212 = .ok (.ishr, 1) := by decide +kernel
theorem dL_acts_213 : decode cL_acts 213 = .ok (.iconst 1, 1) := by decide +kernel
theorem dL_acts_214 : decode cL_acts 214 = .ok (.iand, 1) := by decide +kernel
theorem dL_acts_215 : decode cL_acts 215 = .ok (.iconst 1, 1) := by decide +kernel
theorem dL_acts_216 : decode cL_acts 216 = .ok (.if_icmp .ne 7, 3) := by decide +kernel
theorem dL_acts_219 : decode cL_acts 219 = .ok (.iconst 1, 1) := by decide +kernel
theorem dL_acts_220 : decode cL_acts 220 = .ok (.goto 4, 3) := by decide +kernel
theorem dL_acts_223 : decode cL_acts 223 = .ok (.iconst 0, 1) := by decide +kernel
theorem dL_acts_224 : decode cL_acts 224 = .ok (.ireturn, 1) := by decide +kernel
theorem dL_acts_225 : decode cL_acts 225 = .ok (.iload_n 1, 1) := by decide +kernel
theorem dL_acts_226 : decode cL_acts 226 = .ok (.bipush 7, 2) := by decide +kernel
theorem dL_acts_228 : decode cL_acts 228 = .ok (.ishr, 1) := by decide +kernel
theorem dL_acts_229 : decode cL_acts 229 = .ok (.iconst 4, 1) := by decide +kernel
theorem dL_acts_230 : decode cL_acts 230 = .ok (.irem, 1) := by decide +kernel
theorem dL_acts_231 : decode cL_acts 231 = .ok (.iconst 2, 1) := by decide +kernel
theorem dL_acts_232 : decode cL_acts 232 = .ok (.if_icmp .ne 127, 3) := by decide +kernel
theorem dL_acts_235 : decode cL_acts 235 = .ok (.aload_n 0, 1) := by decide +kernel
theorem dL_acts_236 : decode cL_acts 236 = .ok (.iload_n 3, 1) := by decide +kernel
theorem dL_acts_237 : decode cL_acts 237 = .ok (.iload 4, 2) := by decide +kernel
theorem dL_acts_239 : decode cL_acts 239 = .ok (.invokevirtual 74, 3) := by decide +kernel
theorem dL_acts_242 : decode cL_acts 242 = .ok (.istore 6, 2) := by decide +kernel
theorem dL_acts_244 : decode cL_acts 244 = .ok (.iload 6, 2) := by decide +kernel
theorem dL_acts_246 : decode cL_acts 246 = .ok (.ifCond .ge 26, 3) := by decide +kernel
theorem dL_acts_249 : decode cL_acts 249 = .ok (.iload 6, 2) := by decide +kernel
theorem dL_acts_251 : decode cL_acts 251 = .ok (.iload_n 3, 1) := by decide +kernel
theorem dL_acts_252 : decode cL_acts 252 = .ok (.iload 4, 2) := by decide +kernel
theorem dL_acts_254 : decode cL_acts 254 = .ok (.if_icmp .ne 7, 3) := by decide +kernel
theorem dL_acts_257 : decode cL_acts 257 = .ok (.iconst (-1), 1) := by decide +kernel
theorem dL_acts_258 : decode cL_acts 258 = .ok (.goto 5, 3) := by decide +kernel
theorem dL_acts_261 : decode cL_acts 261 = .ok (.bipush (-2), 2) := by decide +kernel
theorem dL_acts_263 : decode cL_acts 263 = .ok (.if_icmp .ne 7, 3) := by decide +kernel
theorem dL_acts_266 : decode cL_acts 266 = .ok (.iconst 1, 1) := by decide +kernel
theorem dL_acts_267 : decode cL_acts 267 = .ok (.goto 4, 3) := by decide +kernel
theorem dL_acts_270 : decode cL_acts 270 = .ok (.iconst 0, 1) := by decide +kernel
theorem dL_acts_271 : decode cL_acts 271 = .ok (.ireturn, 1) := by decide +kernel
theorem dL_acts_272 : decode cL_acts 272 = .ok (.aload_n 0, 1) := by decide +kernel
theorem dL_acts_273 : decode cL_acts 273 = .ok (.iload_n 3, 1) := by decide +kernel
theorem dL_acts_274 : decode cL_acts 274 = .ok (.bipush 7, 2) := by decide +kernel
theorem dL_acts_276 : decode cL_acts 276 = .ok (.invokevirtual 32, 3) := by decide +kernel
theorem dL_acts_279 : decode cL_acts 279 = .ok (.iload 4, 2) := by decide +kernel
theorem dL_acts_281 : decode cL_acts 281 = .ok (.if_icmp .ne 76, 3) := by decide +kernel
theorem dL_acts_284 : decode cL_acts 284 = .ok (.aload_n 0, 1) := by decide +kernel
theorem dL_acts_285 : decode cL_acts 285 = .ok (.iload_n 3, 1) := by decide +kernel
theorem dL_acts_286 : decode cL_acts 286 = .ok (.bipush 8, 2) := by decide +kernel
theorem dL_acts_288 : decode cL_acts 288 = .ok (.invokevirtual 32, 3) := by decide +kernel
theorem dL_acts_291 : decode cL_acts 291 = .ok (.ifCond .ne 66, 3) := by decide +kernel
theorem dL_acts_294 : decode cL_acts 294 = .ok (.iload 6, 2) := by decide +kernel
theorem dL_acts_296 : decode cL_acts 296 = .ok (.aload_n 0, 1) := by decide +kernel
theorem dL_acts_297 : decode cL_acts 297 = .ok (.iload_n 3, 1) := by decide +kernel
theorem dL_acts_298 : decode cL_acts 298 = .ok (.iconst 5, 1) := by decide +kernel
theorem dL_acts_299 : decode cL_acts 299 = .ok (.invokevirtual 32, 3) := by decide +kernel
theorem dL_acts_302 : decode cL_acts 302 = .ok (.aload_n 0, 1) := by decide +kernel
theorem dL_acts_303 : decode cL_acts 303 = .ok (.iload 4, 2) := by decide +kernel
theorem dL_acts_305 : decode cL_acts 305 = .ok (.iconst 5, 1) := by decide +kernel
theorem dL_acts_306 : decode cL_acts 306 = .ok (.invokevirtual 32, 3) := by decide +kernel
theorem dL_acts_309 : decode cL_acts 309 = .ok (.iadd, 1) := by decide +kernel
theorem dL_acts_310 : decode cL_acts 310 = .ok (.if_icmp .ne 47, 3) := by decide +kernel
theorem dL_acts_313 : decode cL_acts 313 = .ok (.iload_n 1, 1) := by decide +kernel
theorem dL_acts_314 : decode cL_acts 314 = .ok (.bipush 10, 2) := by decide +kernel
theorem dL_acts_316 : decode cL_acts 316 = .ok (.ishr, 1) := by decide +kernel
theorem dL_acts_317 : decode cL_acts 317 = .ok (.iconst 2, 1) := by decide +kernel
theorem dL_acts_318 : decode cL_acts 318 = .ok (.irem, 1) := by decide +kernel
theorem dL_acts_319 : decode cL_acts 319 = .ok (.ifCond .eq 34, 3) := by decide +kernel
theorem dL_acts_322 : decode cL_acts 322 = .ok (.aload_n 0, 1) := by decide +kernel
theorem dL_acts_323 : decode cL_acts 323 = .ok (.iload_n 3, 1) := by decide +kernel
theorem dL_acts_324 : decode cL_acts 324 = .ok (.invokevirtual 77, 3) := by decide +kernel
theorem dL_acts_327 : decode cL_acts 327 = .ok (.aload_n 0, 1) := by decide +kernel
theorem dL_acts_328 : decode cL_acts 328 = .ok (.iload_n 3, 1) := by decide +kernel
theorem dL_acts_329 : decode cL_acts 329 = .ok (.iconst 5, 1) := by decide +kernel
theorem dL_acts_330 : decode cL_acts 330 = .ok (.invokevirtual 32, 3) := by decide +kernel
theorem dL_acts_333 : decode cL_acts 333 = .ok (.aload_n 0, 1) := by decide +kernel
theorem dL_acts_334 : decode cL_acts 334 = .ok (.iload 4, 2) := by decide +kernel
theorem dL_acts_336 : decode cL_acts 336 = .ok (.iconst 5, 1) := by decide +kernel
theorem dL_acts_337 : decode cL_acts 337 = .ok (.invokevirtual 32, 3) := by decide +kernel
theorem dL_acts_340 : decode cL_acts 340 = .ok (.if_icmp .ge 8, 3) := by decide +kernel
theorem dL_acts_343 : decode cL_acts 343 = .ok (.bipush (-2), 2) := by decide +kernel
theorem dL_acts_345 : decode cL_acts 345 = .ok (.goto 5, 3) := by decide +kernel
theorem dL_acts_348 : decode cL_acts 348 = .ok (.iload 4, 2) := by decide +kernel
theorem dL_acts_350 : decode cL_acts 350 = .ok (.if_icmp .ne 7, 3) := by decide +kernel
theorem dL_acts_353 : decode cL_acts 353 = .ok (.iconst 1, 1) := by decide +kernel
theorem dL_acts_354 : decode cL_acts 354 = .ok (.goto 4, 3) := by decide +kernel
theorem dL_acts_357 : decode cL_acts 357 = .ok (.iconst 0, 1) := by decide +kernel
theorem dL_acts_358 : decode cL_acts 358 = .ok (.ireturn, 1) := by decide +kernel
theorem dL_acts_359 : decode cL_acts 359 = .ok (.aload_n 0, 1) := by decide +kernel
theorem dL_acts_360 : decode cL_acts 360 = .ok (.aload_n 0, 1) := by decide +kernel
theorem dL_acts_361 : decode cL_acts 361 = .ok (.iload_n 3, 1) := by decide +kernel
theorem dL_acts_362 : decode cL_acts 362 = .ok (.iconst 0, 1) := by decide +kernel
theorem dL_acts_363 : decode cL_acts 363 = .ok (.invokevirtual 32, 3) := by decide +kernel
theorem dL_acts_366 : decode cL_acts 366 = .ok (.iconst 2, 1) := by decide +kernel
theorem dL_acts_367 : decode cL_acts 367 = .ok (.invokevirtual 35, 3) := by decide +kernel
theorem dL_acts_370 : decode cL_acts 370 = .ok (.istore 6, 2) := by decide +kernel
theorem dL_acts_372 : decode cL_acts 372 = .ok (.iload_n 1, 1) := by decide +kernel
theorem dL_acts_373 : decode cL_acts 373 = .ok (.bipush 10, 2) := by decide +kernel
theorem dL_acts_375 : decode cL_acts 375 = .ok (.ishr, 1) := by decide +kernel
theorem dL_acts_376 : decode cL_acts 376 = .ok (.iconst 3, 1) := by decide +kernel
theorem dL_acts_377 : decode cL_acts 377 = .ok (.irem, 1) := by decide +kernel
theorem dL_acts_378 : decode cL_acts 378 = .ok (.istore 7, 2) := by decide +kernel
theorem dL_acts_380 : decode cL_acts 380 = .ok (.aload_n 0, 1) := by decide +kernel
theorem dL_acts_381 : decode cL_acts 381 = .ok (.iload_n 3, 1) := by decide +kernel
theorem dL_acts_382 : decode cL_acts 382 = .ok (.iload 7, 2) := by decide +kernel
theorem dL_acts_384 : decode cL_acts 384 = .ok (.invokevirtual 80, 3) := by decide +kernel
theorem dL_acts_387 : decode cL_acts 387 = .ok (.istore 8, 2) := by decide +kernel
theorem dL_acts_389 : decode cL_acts 389 = .ok (.iload 7, 2) := by decide +kernel
theorem dL_acts_391 : decode cL_acts 391 = .ok (.ifCond .ne 8, 3) := by decide +kernel
theorem dL_acts_394 : decode cL_acts 394 = .ok (.iload 8, 2) := by decide +kernel
theorem dL_acts_396 : decode cL_acts 396 = .ok (.goto 7, 3) := by decide +kernel
theorem dL_acts_399 : decode cL_acts 399 = .ok (.iload 7, 2) := by decide +kernel
theorem dL_acts_401 : decode cL_acts 401 = .ok (.iconst 1, 1) := by decide +kernel
theorem dL_acts_402 : decode cL_acts 402 = .ok (.iadd, 1) := by decide +kernel
theorem dL_acts_403 : decode cL_acts 403 = .ok (.istore 9, 2) := by decide +kernel
theorem dL_acts_405 : decode cL_acts 405 = .ok (.iload 8, 2) := by decide +kernel
theorem dL_acts_407 : decode cL_acts 407 = .ok (.bipush (-2), 2) := by decide +kernel
theorem dL_acts_409 : decode cL_acts 409 = .ok (.if_icmp .eq 50, 3) := by decide +kernel
theorem dL_acts_412 : decode cL_acts 412 = .ok (.iload 8, 2) := by decide +kernel
theorem dL_acts_414 : decode cL_acts 414 = .ok (.ifCond .le 49, 3) := by decide +kernel
theorem dL_acts_417 : decode cL_acts 417 = .ok (.aload_n 0, 1) := by decide +kernel
theorem dL_acts_418 : decode cL_acts 418 = .ok (.aload_n 0, 1) := by decide +kernel
theorem dL_acts_419 : decode cL_acts 419 = .ok (.iload_n 3, 1) := by decide +kernel
theorem dL_acts_420 : decode cL_acts 420 = .ok (.iconst 0, 1) := by decide +kernel
theorem dL_acts_421 : decode cL_acts 421 = .ok (.invokevirtual 32, 3) := by decide +kernel
theorem dL_acts_424 : decode cL_acts 424 = .ok (.iconst 2, 1) := by decide +kernel
theorem dL_acts_425 : decode cL_acts 425 = .ok (.invokevirtual 35, 3) := by decide +kernel
theorem dL_acts_428 : decode cL_acts 428 = .ok (.iload 6, 2) := by decide +kernel
theorem dL_acts_430 : decode cL_acts 430 = .ok (.iload 9, 2) := by decide +kernel
theorem dL_acts_432 : decode cL_acts 432 = .ok (.isub, 1) := by decide +kernel
theorem dL_acts_433 : decode cL_acts 433 = .ok (.if_icmp .ne 30, 3) := by decide +kernel
theorem dL_acts_436 : decode cL_acts 436 = .ok (.aload_n 0, 1) := by decide +kernel
theorem dL_acts_437 : decode cL_acts 437 = .ok (.iload_n 3, 1) := by decide +kernel
theorem dL_acts_438 : decode cL_acts 438 = .ok (.iload 7, 2) := by decide +kernel
theorem dL_acts_440 : decode cL_acts 440 = .ok (.invokevirtual 80, 3) := by decide +kernel
theorem dL_acts_443 : decode cL_acts 443 = .ok (.bipush (-2), 2) := by decide +kernel
theorem dL_acts_445 : decode cL_acts 445 = .ok (.if_icmp .ne 18, 3) := by decide +kernel
theorem dL_acts_448 : decode cL_acts 448 = .ok (.aload_n 0, 1) := by decide +kernel
theorem dL_acts_449 : decode cL_acts 449 = .ok (.iload_n 3, 1) := by decide +kernel
theorem dL_acts_450 : decode cL_acts 450 = .ok (.bipush 10, 2) := by decide +kernel
theorem dL_acts_452 : decode cL_acts 452 = .ok (.invokevirtual 32, 3) := by decide +kernel
theorem dL_acts_455 : decode cL_acts 455 = .ok (.iconst 4, 1) := by decide +kernel
theorem dL_acts_456 : decode cL_acts 456 = .ok (.if_icmp .ne 7, 3) := by decide +kernel
theorem dL_acts_459 : decode cL_acts 459 = .ok (.iconst 1, 1) := by decide +kernel
theorem dL_acts_460 : decode cL_acts 460 = .ok (.goto 4, 3) := by decide +kernel
theorem dL_acts_463 : decode cL_acts 463 = .ok (.iconst 0, 1) := by decide +kernel
theorem dL_acts_464 : decode cL_acts 464 = .ok (.ireturn, 1) := by decide +kernel
theorem dL_tells_0 : decode cL_tells 0 = .ok (.iload_n 1, 1) := by decide +kernel
theorem dL_tells_1 : decode cL_tells 1 = .ok (.bipush 6, 2) := by decide +kernel
theorem dL_tells_3 : decode cL_tells 3 = .ok (.irem, 1) := by decide +kernel
theorem dL_tells_4 : decode cL_tells 4 = .ok (.istore_n 2, 1) := by decide +kernel
theorem dL_tells_5 : decode cL_tells 5 = .ok (.iload_n 1, 1) := by decide +kernel
theorem dL_tells_6 : decode cL_tells 6 = .ok (.iconst 3, 1) := by decide +kernel
theorem dL_tells_7 : decode cL_tells 7 = .ok (.ishr, 1) := by decide +kernel
theorem dL_tells_8 : decode cL_tells 8 = .ok (.bipush 6, 2) := by decide +kernel
theorem dL_tells_10 : decode cL_tells 10 = .ok (.irem, 1) := by decide +kernel
theorem dL_tells_11 : decode cL_tells 11 = .ok (.istore_n 3, 1) := by decide +kernel
theorem dL_tells_12 : decode cL_tells 12 = .ok (.aload_n 0, 1) := by decide +kernel
theorem dL_tells_13 : decode cL_tells 13 = .ok (.iconst 0, 1) := by decide +kernel
theorem dL_tells_14 : decode cL_tells 14 = .ok (.iconst 0, 1) := by decide +kernel
theorem dL_tells_15 : decode cL_tells 15 = .ok (.invokevirtual 35, 3) := by decide +kernel
theorem dL_tells_18 : decode cL_tells 18 = .ok (.iload_n 2, 1) := by decide +kernel
theorem dL_tells_19 : decode cL_tells 19 = .ok (.ishr, 1) := by decide +kernel
theorem dL_tells_20 : decode cL_tells 20 = .ok (.iconst 1, 1) := by decide +kernel
theorem dL_tells_21 : decode cL_tells 21 = .ok (.iand, 1) := by decide +kernel
theorem dL_tells_22 : decode cL_tells 22 = .ok (.ifCond .ne 13, 3) := by decide +kernel
theorem dL_tells_25 : decode cL_tells 25 = .ok (.iload_n 2, 1) := by decide +kernel
theorem dL_tells_26 : decode cL_tells 26 = .ok (.iconst 1, 1) := by decide +kernel
theorem dL_tells_27 : decode cL_tells 27 = .ok (.iadd, 1) := by decide +kernel
theorem dL_tells_28 : decode cL_tells 28 = .ok (.bipush 6, 2) := by decide +kernel
theorem dL_tells_30 : decode cL_tells 30 = .ok (.irem, 1) := by decide +kernel
theorem dL_tells_31 : decode cL_tells 31 = .ok (.istore_n 2, 1) := by decide +kernel
theorem dL_tells_32 : decode cL_tells 32 = .ok (.goto (-20), 3) := by decide +kernel
theorem dL_tells_35 : decode cL_tells 35 = .ok (.aload_n 0, 1) := by decide +kernel
theorem dL_tells_36 : decode cL_tells 36 = .ok (.iconst 1, 1) := by decide +kernel
theorem dL_tells_37 : decode cL_tells 37 = .ok (.iconst 0, 1) := by decide +kernel
theorem dL_tells_38 : decode cL_tells 38 = .ok (.invokevirtual 35, 3) := by decide +kernel
theorem dL_tells_41 : decode cL_tells 41 = .ok (.iload_n 3, 1) := by decide +kernel
theorem dL_tells_42 : decode cL_tells 42 = .ok (.ishr, 1) := by decide +kernel
theorem dL_tells_43 : decode cL_tells 43 = .ok (.iconst 1, 1) := by decide +kernel
theorem dL_tells_44 : decode cL_tells 44 = .ok (.iand, 1) := by decide +kernel
theorem dL_tells_45 : decode cL_tells 45 = .ok (.ifCond .ne 13, 3) := by decide +kernel
theorem dL_tells_48 : decode cL_tells 48 = .ok (.iload_n 3, 1) := by decide +kernel
theorem dL_tells_49 : decode cL_tells 49 = .ok (.iconst 1, 1) := by decide +kernel
theorem dL_tells_50 : decode cL_tells 50 = .ok (.iadd, 1) := by decide +kernel
theorem dL_tells_51 : decode cL_tells 51 = .ok (.bipush 6, 2) := by decide +kernel
theorem dL_tells_53 : decode cL_tells 53 = .ok (.irem, 1) := by decide +kernel
theorem dL_tells_54 : decode cL_tells 54 = .ok (.istore_n 3, 1) := by decide +kernel
theorem dL_tells_55 : decode cL_tells 55 = .ok (.goto (-20), 3) := by decide +kernel
theorem dL_tells_58 : decode cL_tells 58 = .ok (.aload_n 0, 1) := by decide +kernel
theorem dL_tells_59 : decode cL_tells 59 = .ok (.iload_n 2, 1) := by decide +kernel
theorem dL_tells_60 : decode cL_tells 60 = .ok (.iload_n 3, 1) := by decide +kernel
theorem dL_tells_61 : decode cL_tells 61 = .ok (.invokevirtual 83, 3) := by decide +kernel
theorem dL_tells_64 : decode cL_tells 64 = .ok (.istore 4, 2) := by decide +kernel
theorem dL_tells_66 : decode cL_tells 66 = .ok (.aload_n 0, 1) := by decide +kernel
theorem dL_tells_67 : decode cL_tells 67 = .ok (.iconst 0, 1) := by decide +kernel
theorem dL_tells_68 : decode cL_tells 68 = .ok (.iconst 1, 1) := by decide +kernel
theorem dL_tells_69 : decode cL_tells 69 = .ok (.invokevirtual 60, 3) := by decide +kernel
theorem dL_tells_72 : decode cL_tells 72 = .ok (.bipush (-2), 2) := by decide +kernel
theorem dL_tells_74 : decode cL_tells 74 = .ok (.if_icmp .ne 57, 3) := by decide +kernel
theorem dL_tells_77 : decode cL_tells 77 = .ok (.aload_n 0, 1) := by decide +kernel
theorem dL_tells_78 : decode cL_tells 78 = .ok (.invokevirtual 86, 3) := by decide +kernel
theorem dL_tells_81 : decode cL_tells 81 = .ok (.bipush (-2), 2) := by decide +kernel
theorem dL_tells_83 : decode cL_tells 83 = .ok (.if_icmp .ne 48, 3) := by decide +kernel
theorem dL_tells_86 : decode cL_tells 86 = .ok (.aload_n 0, 1) := by decide +kernel
theorem dL_tells_87 : decode cL_tells 87 = .ok (.iconst 0, 1) := by decide +kernel
theorem dL_tells_88 : decode cL_tells 88 = .ok (.iload_n 2, 1) := by decide +kernel
theorem dL_tells_89 : decode cL_tells 89 = .ok (.invokevirtual 89, 3) := by decide +kernel
theorem dL_tells_92 : decode cL_tells 92 = .ok (.iconst 1, 1) := by decide +kernel
theorem dL_tells_93 : decode cL_tells 93 = .ok (.if_icmp .ne 38, 3) := by decide +kernel
theorem dL_tells_96 : decode cL_tells 96 = .ok (.aload_n 0, 1) := by decide +kernel
theorem dL_tells_97 : decode cL_tells 97 = .ok (.iconst 0, 1) := by decide +kernel
theorem dL_tells_98 : decode cL_tells 98 = .ok (.iload_n 2, 1) := by decide +kernel
theorem dL_tells_99 : decode cL_tells 99 = .ok (.invokevirtual 89, 3) := by decide +kernel
theorem dL_tells_102 : decode cL_tells 102 = .ok (.bipush (-2), 2) := by decide +kernel
theorem dL_tells_104 : decode cL_tells 104 = .ok (.if_icmp .ne 27, 3) := by decide +kernel
theorem dL_tells_107 : decode cL_tells 107 = .ok (.aload_n 0, 1) := by decide +kernel
theorem dL_tells_108 : decode cL_tells 108 = .ok (.iconst 0, 1) := by decide +kernel
theorem dL_tells_109 : decode cL_tells 109 = .ok (.iconst 1, 1) := by decide +kernel
theorem dL_tells_110 : decode cL_tells 110 = .ok (.invokevirtual 35, 3) := by decide +kernel
theorem dL_tells_113 : decode cL_tells 113 = .ok (.iload_n 2, 1) := by decide +kernel
theorem dL_tells_114 : decode cL_tells 114 = .ok (.if_icmp .ne 17, 3) := by decide +kernel
theorem dL_tells_117 : decode cL_tells 117 = .ok (.aload_n 0, 1) := by decide +kernel
theorem dL_tells_118 : decode cL_tells 118 = .ok (.iconst 1, 1) := by decide +kernel
theorem dL_tells_119 : decode cL_tells 119 = .ok (.iload_n 3, 1) := by decide +kernel
theorem dL_tells_120 : decode cL_tells 120 = .ok (.invokevirtual 89, 3) := by decide +kernel
theorem dL_tells_123 : decode cL_tells 123 = .ok (.iconst 3, 1) := by decide +kernel
theorem dL_tells_124 : decode cL_tells 124 = .ok (.if_icmp .ne 7, 3) := by decide +kernel
theorem dL_tells_127 : decode cL_tells 127 = .ok (.iconst 1, 1) := by decide +kernel
theorem dL_tells_128 : decode cL_tells 128 = .ok (.goto 4, 3) := by decide +kernel
theorem dL_tells_131 : decode cL_tells 131 = .ok (.iconst 0, 1) := by decide +kernel
theorem dL_tells_132 : decode cL_tells 132 = .ok (.istore 5, 2) := by decide +kernel
theorem dL_tells_134 : decode cL_tells 134 = .ok (.iload 5, 2) := by decide +kernel
theorem dL_tells_136 : decode cL_tells 136 = .ok (.ifCond .eq 57, 3) := by decide +kernel
theorem dL_tells_139 : decode cL_tells 139 = .ok (.bipush 10, 2) := by decide +kernel
theorem dL_tells_141 : decode cL_tells 141 = .ok (.aload_n 0, 1) := by decide +kernel
theorem dL_tells_142 : decode cL_tells 142 = .ok (.iconst 2, 1) := by decide +kernel
theorem dL_tells_143 : decode cL_tells 143 = .ok (.invokevirtual 15, 3) := by decide +kernel
theorem dL_tells_146 : decode cL_tells 146 = .ok (.imul, 1) := by decide +kernel
theorem dL_tells_147 : decode cL_tells 147 = .ok (.aload_n 0, 1) := by decide +kernel
theorem dL_tells_148 : decode cL_tells 148 = .ok (.iconst 3, 1) := by decide +kernel
theorem dL_tells_149 : decode cL_tells 149 = .ok (.invokevirtual 15, 3) := by decide +kernel
theorem dL_tells_152 : decode cL_tells 152 = .ok (.iadd, 1) := by decide +kernel
theorem dL_tells_153 : decode cL_tells 153 = .ok (.iload 4, 2) := by decide +kernel
theorem dL_tells_155 : decode cL_tells 155 = .ok (.if_icmp .ne 38, 3) := by decide +kernel
theorem dL_tells_158 : decode cL_tells 158 = .ok (.aload_n 0, 1) := by decide +kernel
theorem dL_tells_159 : decode cL_tells 159 = .ok (.iconst 1, 1) := by decide +kernel
theorem dL_tells_160 : decode cL_tells 160 = .ok (.invokevirtual 15, 3) := by decide +kernel
theorem dL_tells_163 : decode cL_tells 163 = .ok (.iconst 1, 1) := by decide +kernel
theorem dL_tells_164 : decode cL_tells 164 = .ok (.if_icmp .ne 29, 3) := by decide +kernel
theorem dL_tells_167 : decode cL_tells 167 = .ok (.aload_n 0, 1) := by decide +kernel
theorem dL_tells_168 : decode cL_tells 168 = .ok (.iconst 0, 1) := by decide +kernel
theorem dL_tells_169 : decode cL_tells 169 = .ok (.iconst 1, 1) := by decide +kernel
theorem dL_tells_170 : decode cL_tells 170 = .ok (.invokevirtual 35, 3) := by decide +kernel
theorem dL_tells_173 : decode cL_tells 173 = .ok (.bipush (-9), 2) := by decide +kernel
theorem dL_tells_175 : decode cL_tells 175 = .ok (.if_icmp .ne 18, 3) := by decide +kernel
theorem dL_tells_178 : decode cL_tells 178 = .ok (.aload_n 0, 1) := by decide +kernel
theorem dL_tells_179 : decode cL_tells 179 = .ok (.iconst 1, 1) := by decide +kernel
theorem dL_tells_180 : decode cL_tells 180 = .ok (.iload_n 3, 1) := by decide +kernel
theorem dL_tells_181 : decode cL_tells 181 = .ok (.invokevirtual 89, 3) := by decide +kernel
theorem dL_tells_184 : decode cL_tells 184 = .ok (.bipush (-2), 2) := by decide +kernel
theorem dL_tells_186 : decode cL_tells 186 = .ok (.if_icmp .ne 7, 3) := by decide +kernel
theorem dL_tells_189 : decode cL_tells 189 = .ok (.iconst 1, 1) := by decide +kernel
theorem dL_tells_190 : decode cL_tells 190 = .ok (.goto 4, 3) := by decide +kernel
theorem dL_tells_193 : decode cL_tells 193 = .ok (.iconst 0, 1) := by decide +kernel
theorem dL_tells_194 : decode cL_tells 194 = .ok (.ireturn, 1) := by decide +kernel
theorem dL_law_0 : decode cL_law 0 = .ok (.new 16, 3) := by decide +kernel
theorem dL_law_3 : decode cL_law 3 = .ok (.dup, 1) := by decide +kernel
theorem dL_law_4 : decode cL_law 4 = .ok (.invokespecial 92, 3) := by decide +kernel
theorem dL_law_7 : decode cL_law 7 = .ok (.astore_n 1, 1) := by decide +kernel
theorem dL_law_8 : decode cL_law 8 = .ok (.aload_n 1, 1) := by decide +kernel
theorem dL_law_9 : decode cL_law 9 = .ok (.invokevirtual 63, 3) := by decide +kernel
theorem dL_law_12 : decode cL_law 12 = .ok (.bipush (-2), 2) := by decide +kernel
theorem dL_law_14 : decode cL_law 14 = .ok (.if_icmp .ne 22, 3) := by decide +kernel
theorem dL_law_17 : decode cL_law 17 = .ok (.aload_n 1, 1) := by decide +kernel
theorem dL_law_18 : decode cL_law 18 = .ok (.aload_n 0, 1) := by decide +kernel
theorem dL_law_19 : decode cL_law 19 = .ok (.invokestatic 93, 3) := by decide +kernel
theorem dL_law_22 : decode cL_law 22 = .ok (.ifCond .eq 14, 3) := by decide +kernel
theorem dL_law_25 : decode cL_law 25 = .ok (.aload_n 1, 1) := by decide +kernel
theorem dL_law_26 : decode cL_law 26 = .ok (.invokestatic 97, 3) := by decide +kernel
theorem dL_law_29 : decode cL_law 29 = .ok (.ifCond .eq 7, 3) := by decide +kernel
theorem dL_law_32 : decode cL_law 32 = .ok (.iconst 1, 1) := by decide +kernel
theorem dL_law_33 : decode cL_law 33 = .ok (.goto 4, 3) := by decide +kernel
theorem dL_law_36 : decode cL_law 36 = .ok (.iconst 0, 1) := by decide +kernel
theorem dL_law_37 : decode cL_law 37 = .ok (.istore_n 2, 1) := by decide +kernel
theorem dL_law_38 : decode cL_law 38 = .ok (.iload_n 2, 1) := by decide +kernel
theorem dL_law_39 : decode cL_law 39 = .ok (.ifCond .eq 11, 3) := by decide +kernel
theorem dL_law_42 : decode cL_law 42 = .ok (.aload_n 1, 1) := by decide +kernel
theorem dL_law_43 : decode cL_law 43 = .ok (.iconst 5, 1) := by decide +kernel
theorem dL_law_44 : decode cL_law 44 = .ok (.invokevirtual 15, 3) := by decide +kernel
theorem dL_law_47 : decode cL_law 47 = .ok (.ifCond .ne 5, 3) := by decide +kernel
theorem dL_law_50 : decode cL_law 50 = .ok (.iload_n 2, 1) := by decide +kernel
theorem dL_law_51 : decode cL_law 51 = .ok (.ireturn, 1) := by decide +kernel
theorem dL_law_52 : decode cL_law 52 = .ok (.iconst 0, 1) := by decide +kernel
theorem dL_law_53 : decode cL_law 53 = .ok (.istore_n 3, 1) := by decide +kernel
theorem dL_law_54 : decode cL_law 54 = .ok (.iload_n 3, 1) := by decide +kernel
theorem dL_law_55 : decode cL_law 55 = .ok (.iconst 4, 1) := by decide +kernel
theorem dL_law_56 : decode cL_law 56 = .ok (.if_icmp .ge 157, 3) := by decide +kernel
theorem dL_law_59 : decode cL_law 59 = .ok (.iload_n 2, 1) := by decide +kernel
theorem dL_law_60 : decode cL_law 60 = .ok (.ifCond .eq 153, 3) := by decide +kernel
theorem dL_law_63 : decode cL_law 63 = .ok (.aload_n 1, 1) := by decide +kernel
theorem dL_law_64 : decode cL_law 64 = .ok (.aload_n 0, 1) := by decide +kernel
theorem dL_law_65 : decode cL_law 65 = .ok (.bipush 20, 2) := by decide +kernel
theorem dL_law_67 : decode cL_law 67 = .ok (.iload_n 3, 1) := by decide +kernel
theorem dL_law_68 : decode cL_law 68 = .ok (.iadd, 1) := by decide +kernel
theorem dL_law_69 : decode cL_law 69 = .ok (.invokestatic 9, 3) := by decide +kernel
theorem dL_law_72 : decode cL_law 72 = .ok (.invokestatic 101, 3) := by decide +kernel
theorem dL_law_75 : decode cL_law 75 = .ok (.istore_n 2, 1) := by decide +kernel
theorem dL_law_76 : decode cL_law 76 = .ok (.iconst 0, 1) := by decide +kernel
theorem dL_law_77 : decode cL_law 77 = .ok (.istore 4, 2) := by decide +kernel
theorem dL_law_79 : decode cL_law 79 = .ok (.iload 4, 2) := by decide +kernel
theorem dL_law_81 : decode cL_law 81 = .ok (.bipush 8, 2) := by decide +kernel
theorem dL_law_83 : decode cL_law 83 = .ok (.if_icmp .ge 47, 3) := by decide +kernel
theorem dL_law_86 : decode cL_law 86 = .ok (.iload_n 2, 1) := by decide +kernel
theorem dL_law_87 : decode cL_law 87 = .ok (.ifCond .eq 43, 3) := by decide +kernel
theorem dL_law_90 : decode cL_law 90 = .ok (.aload_n 1, 1) := by decide +kernel
theorem dL_law_91 : decode cL_law 91 = .ok (.aload_n 0, 1) := by decide +kernel
theorem dL_law_92 : decode cL_law 92 = .ok (.bipush 24, 2) := by decide +kernel
theorem dL_law_94 : decode cL_law 94 = .ok (.bipush 8, 2) := by decide +kernel
theorem dL_law_96 : decode cL_law 96 = .ok (.iload_n 3, 1) := by decide +kernel
theorem dL_law_97 : decode cL_law 97 = .ok (.imul, 1) := by decide +kernel
theorem dL_law_98 : decode cL_law 98 = .ok (.iadd, 1) := by decide +kernel
theorem dL_law_99 : decode cL_law 99 = .ok (.iload 4, 2) := by decide +kernel
theorem dL_law_101 : decode cL_law 101 = .ok (.iadd, 1) := by decide +kernel
theorem dL_law_102 : decode cL_law 102 = .ok (.invokestatic 9, 3) := by decide +kernel
theorem dL_law_105 : decode cL_law 105 = .ok (.invokestatic 105, 3) := by decide +kernel
theorem dL_law_108 : decode cL_law 108 = .ok (.ifCond .eq 14, 3) := by decide +kernel
theorem dL_law_111 : decode cL_law 111 = .ok (.aload_n 1, 1) := by decide +kernel
theorem dL_law_112 : decode cL_law 112 = .ok (.invokestatic 97, 3) := by decide +kernel
theorem dL_law_115 : decode cL_law 115 = .ok (.ifCond .eq 7, 3) := by decide +kernel
theorem dL_law_118 : decode cL_law 118 = .ok (.iconst 1, 1) := by decide +kernel
theorem dL_law_119 : decode cL_law 119 = .ok (.goto 4, 3) := by decide +kernel
theorem dL_law_122 : decode cL_law 122 = .ok (.iconst 0, 1) := by decide +kernel
theorem dL_law_123 : decode cL_law 123 = .ok (.istore_n 2, 1) := by decide +kernel
theorem dL_law_124 : decode cL_law 124 = .ok (.iinc 4 1, 3) := by decide +kernel
theorem dL_law_127 : decode cL_law 127 = .ok (.goto (-48), 3) := by decide +kernel
theorem dL_law_130 : decode cL_law 130 = .ok (.aload_n 1, 1) := by decide +kernel
theorem dL_law_131 : decode cL_law 131 = .ok (.iconst 0, 1) := by decide +kernel
theorem dL_law_132 : decode cL_law 132 = .ok (.invokevirtual 54, 3) := by decide +kernel
theorem dL_law_135 : decode cL_law 135 = .ok (.aload_n 1, 1) := by decide +kernel
theorem dL_law_136 : decode cL_law 136 = .ok (.iconst 1, 1) := by decide +kernel
theorem dL_law_137 : decode cL_law 137 = .ok (.invokevirtual 54, 3) := by decide +kernel
theorem dL_law_140 : decode cL_law 140 = .ok (.iadd, 1) := by decide +kernel
theorem dL_law_141 : decode cL_law 141 = .ok (.istore 4, 2) := by decide +kernel
theorem dL_law_143 : decode cL_law 143 = .ok (.iload_n 2, 1) := by decide +kernel
theorem dL_law_144 : decode cL_law 144 = .ok (.ifCond .eq 61, 3) := by decide +kernel
theorem dL_law_147 : decode cL_law 147 = .ok (.aload_n 1, 1) := by decide +kernel
theorem dL_law_148 : decode cL_law 148 = .ok (.iload_n 3, 1) := by decide +kernel
theorem dL_law_149 : decode cL_law 149 = .ok (.iconst 2, 1) := by decide +kernel
theorem dL_law_150 : decode cL_law 150 = .ok (.irem, 1) := by decide +kernel
theorem dL_law_151 : decode cL_law 151 = .ok (.invokevirtual 108, 3) := by decide +kernel
theorem dL_law_154 : decode cL_law 154 = .ok (.iload_n 3, 1) := by decide +kernel
theorem dL_law_155 : decode cL_law 155 = .ok (.if_icmp .ne 50, 3) := by decide +kernel
theorem dL_law_158 : decode cL_law 158 = .ok (.aload_n 1, 1) := by decide +kernel
theorem dL_law_159 : decode cL_law 159 = .ok (.invokevirtual 86, 3) := by decide +kernel
theorem dL_law_162 : decode cL_law 162 = .ok (.iload_n 3, 1) := by decide +kernel
theorem dL_law_163 : decode cL_law 163 = .ok (.iconst 1, 1) := by decide +kernel
theorem dL_law_164 : decode cL_law 164 = .ok (.iadd, 1) := by decide +kernel
theorem dL_law_165 : decode cL_law 165 = .ok (.if_icmp .ne 40, 3) := by decide +kernel
theorem dL_law_168 : decode cL_law 168 = .ok (.aload_n 1, 1) := by decide +kernel
theorem dL_law_169 : decode cL_law 169 = .ok (.invokestatic 97, 3) := by decide +kernel
theorem dL_law_172 : decode cL_law 172 = .ok (.ifCond .eq 33, 3) := by decide +kernel
theorem dL_law_175 : decode cL_law 175 = .ok (.aload_n 1, 1) := by decide +kernel
theorem dL_law_176 : decode cL_law 176 = .ok (.iconst 1, 1) := by decide +kernel
theorem dL_law_177 : decode cL_law 177 = .ok (.invokevirtual 15, 3) := by decide +kernel
theorem dL_law_180 : decode cL_law 180 = .ok (.ifCond .ne 25, 3) := by decide +kernel
theorem dL_law_183 : decode cL_law 183 = .ok (.aload_n 1, 1) := by decide +kernel
theorem dL_law_184 : decode cL_law 184 = .ok (.iconst 0, 1) := by decide +kernel
theorem dL_law_185 : decode cL_law 185 = .ok (.invokevirtual 54, 3) := by decide +kernel
theorem dL_law_188 : decode cL_law 188 = .ok (.aload_n 1, 1) := by decide +kernel
theorem dL_law_189 : decode cL_law 189 = .ok (.iconst 1, 1) := by decide +kernel
theorem dL_law_190 : decode cL_law 190 = .ok (.invokevirtual 54, 3) := by decide +kernel
theorem dL_law_193 : decode cL_law 193 = .ok (.iadd, 1) := by decide +kernel
theorem dL_law_194 : decode cL_law 194 = .ok (.iload 4, 2) := by decide +kernel
theorem dL_law_196 : decode cL_law 196 = .ok (.iconst 1, 1) := by decide +kernel
theorem dL_law_197 : decode cL_law 197 = .ok (.iadd, 1) := by decide +kernel
theorem dL_law_198 : decode cL_law 198 = .ok (.if_icmp .gt 7, 3) := by decide +kernel
theorem dL_law_201 : decode cL_law 201 = .ok (.iconst 1, 1) := by decide +kernel
theorem dL_law_202 : decode cL_law 202 = .ok (.goto 4, 3) := by decide +kernel
theorem dL_law_205 : decode cL_law 205 = .ok (.iconst 0, 1) := by decide +kernel
theorem dL_law_206 : decode cL_law 206 = .ok (.istore_n 2, 1) := by decide +kernel
theorem dL_law_207 : decode cL_law 207 = .ok (.iinc 3 1, 3) := by decide +kernel
theorem dL_law_210 : decode cL_law 210 = .ok (.goto (-156), 3) := by decide +kernel
theorem dL_law_213 : decode cL_law 213 = .ok (.iload_n 2, 1) := by decide +kernel
theorem dL_law_214 : decode cL_law 214 = .ok (.ifCond .eq 42, 3) := by decide +kernel
theorem dL_law_217 : decode cL_law 217 = .ok (.aload_n 1, 1) := by decide +kernel
theorem dL_law_218 : decode cL_law 218 = .ok (.iconst 1, 1) := by decide +kernel
theorem dL_law_219 : decode cL_law 219 = .ok (.invokevirtual 111, 3) := by decide +kernel
theorem dL_law_222 : decode cL_law 222 = .ok (.iconst 3, 1) := by decide +kernel
theorem dL_law_223 : decode cL_law 223 = .ok (.if_icmp .ne 33, 3) := by decide +kernel
theorem dL_law_226 : decode cL_law 226 = .ok (.aload_n 1, 1) := by decide +kernel
theorem dL_law_227 : decode cL_law 227 = .ok (.iconst 1, 1) := by decide +kernel
theorem dL_law_228 : decode cL_law 228 = .ok (.invokevirtual 15, 3) := by decide +kernel
theorem dL_law_231 : decode cL_law 231 = .ok (.iconst 1, 1) := by decide +kernel
theorem dL_law_232 : decode cL_law 232 = .ok (.if_icmp .ne 24, 3) := by decide +kernel
theorem dL_law_235 : decode cL_law 235 = .ok (.aload_n 1, 1) := by decide +kernel
theorem dL_law_236 : decode cL_law 236 = .ok (.bipush 9, 2) := by decide +kernel
theorem dL_law_238 : decode cL_law 238 = .ok (.invokevirtual 15, 3) := by decide +kernel
theorem dL_law_241 : decode cL_law 241 = .ok (.iconst 2, 1) := by decide +kernel
theorem dL_law_242 : decode cL_law 242 = .ok (.if_icmp .ne 14, 3) := by decide +kernel
theorem dL_law_245 : decode cL_law 245 = .ok (.aload_n 1, 1) := by decide +kernel
theorem dL_law_246 : decode cL_law 246 = .ok (.invokestatic 97, 3) := by decide +kernel
theorem dL_law_249 : decode cL_law 249 = .ok (.ifCond .eq 7, 3) := by decide +kernel
theorem dL_law_252 : decode cL_law 252 = .ok (.iconst 1, 1) := by decide +kernel
theorem dL_law_253 : decode cL_law 253 = .ok (.goto 4, 3) := by decide +kernel
theorem dL_law_256 : decode cL_law 256 = .ok (.iconst 0, 1) := by decide +kernel
theorem dL_law_257 : decode cL_law 257 = .ok (.ireturn, 1) := by decide +kernel
end
section
/-! RUN: a walk's judgement over an abstract heap (address -> content), beside the machine's own W: locals as a list by their places, one heap relation for all methods. -/
abbrev AE : Type := (Nat × vp_A) ⊕ (Nat × List Value)
abbrev AH : Type := Nat × (Nat → Option AE)
def toE (cA : Nat → ClassId) : AE → va_E
  | .inl q => .inl (cA q.1, q.2)
  | .inr o => .inr o
def hput (h : AH) (a : Nat) (e : AE) : AH := (h.1, fun q => if q = a then some e else h.2 q)
def hnew (h : AH) (e : AE) : AH := (h.1 + 1, fun q => if q = h.1 then some e else h.2 q)
theorem hput_1 (h : AH) (a : Nat) (e : AE) : (hput h a e).1 = h.1 := rfl
theorem hnew_1 (h : AH) (e : AE) : (hnew h e).1 = h.1 + 1 := rfl
theorem hput_at (h : AH) (a : Nat) (e : AE) : (hput h a e).2 a = some e := by simp [hput]
theorem hput_ne (h : AH) {a b : Nat} (e : AE) (n : b ≠ a) : (hput h a e).2 b = h.2 b := by simp [hput, n]
theorem hnew_at (h : AH) (e : AE) : (hnew h e).2 h.1 = some e := by simp [hnew]
theorem hnew_ne (h : AH) {b : Nat} (e : AE) (n : b ≠ h.1) : (hnew h e).2 b = h.2 b := by simp [hnew, n]
def atys (cA : Nat → ClassId) : List (ClassId × FieldType) := [(cA 0, .int), (cA 1, .int), (cA 2, .object RX7), (cA 3, .object RX8)]
def Nst (U : State) : Prop := va_Nw (.methodLinkNest RX9 9 yX8_init RX9) U ∧ va_Nw (.methodLinkNest RX1 17 yX0_init RX9) U ∧ va_Nw (.methodLinkNest RX3 17 yX8_init RX9) U ∧ va_Nw (.methodLinkNest RX9 25 yX4_init RX9) U ∧ va_Nw (.methodLinkNest RX9 32 yX6_init RX9) U ∧ va_AO RX7 U ∧ va_AO RX8 U
theorem Nst.warm {s U : State} (hW : s.WarmedH U.vm) (h : Nst s) : Nst U :=
  ⟨h.1.warmM hW, h.2.1.warmM hW, h.2.2.1.warmM hW, h.2.2.2.1.warmM hW, h.2.2.2.2.1.warmM hW, h.2.2.2.2.2.1.moved hW.alike, h.2.2.2.2.2.2.moved hW.alike⟩
theorem Nst.same {s U : State} (e : s.vm = U.vm) (h : Nst s) : Nst U :=
  ⟨h.1.same rfl e, h.2.1.same rfl e, h.2.2.1.same rfl e, h.2.2.2.1.same rfl e, h.2.2.2.2.1.same rfl e, h.2.2.2.2.2.1.moved (e ▸ Vm.Alike.refl s.vm), h.2.2.2.2.2.2.moved (e ▸ Vm.Alike.refl s.vm)⟩
def KK (D : va_G) (cA : Nat → ClassId) (U : State) : Prop := va_K D vwCl (atys cA) U ∧ Nst U
theorem KK.warm {D : va_G} {cA : Nat → ClassId} {s U : State} (hW : s.WarmedH U.vm) (h : KK D cA s) : KK D cA U := ⟨h.1.moved hW.alike, h.2.warm hW⟩
theorem KK.same {D : va_G} {cA : Nat → ClassId} {s U : State} (e : s.vm = U.vm) (h : KK D cA s) : KK D cA U := ⟨h.1.moved (e ▸ Vm.Alike.refl s.vm), h.2.same e⟩
def Rh (D : va_G) (cA : Nat → ClassId) (N0 : Nat) (h : AH) (H : Heap) : Prop := H.size = h.1 ∧ ∀ (a : Nat) (e : AE), h.2 a = some e → N0 ≤ a ∧ va_at D vwCl (a, toE cA e) H
theorem Rh.put {D : va_G} {cA : Nat → ClassId} {N0 : Nat} {h : AH} {H H1 : Heap} {a : Nat} {e : AE} (hR : Rh D cA N0 h H) (ha : N0 ≤ a) (he : va_at D vwCl (a, toE cA e) H1) (z : H1.size = H.size) (oq : ∀ q : Nat, q ≠ a → H1[q]? = H[q]?) : Rh D cA N0 (hput h a e) H1 := by
  refine ⟨z.trans hR.1, fun b e' hb => ?_⟩
  by_cases hab : b = a
  · subst hab
    rw [hput_at] at hb
    cases hb
    exact ⟨ha, he⟩
  · rw [hput_ne _ _ hab] at hb
    exact ⟨(hR.2 b e' hb).1, (hR.2 b e' hb).2.kept (oq b hab)⟩
theorem Rh.new {D : va_G} {cA : Nat → ClassId} {N0 : Nat} {h : AH} {H H1 : Heap} {e : AE} (hR : Rh D cA N0 h H) (hN : N0 ≤ H.size) (he : va_at D vwCl (H.size, toE cA e) H1) (z : H1.size = H.size + 1) (oq : ∀ q : Nat, q < H.size → H1[q]? = H[q]?) : Rh D cA N0 (hnew h e) H1 := by
  refine ⟨by rw [z, hR.1]; rfl, fun b e' hb => ?_⟩
  by_cases hab : b = h.1
  · subst hab
    rw [hnew_at] at hb
    cases hb
    rw [← hR.1]
    exact ⟨hN, he⟩
  · rw [hnew_ne _ _ hab] at hb
    exact ⟨(hR.2 b e' hb).1, (hR.2 b e' hb).2.kept (oq b (hR.2 b e' hb).2.lt)⟩
/-- the locals by their places -/
def enc : Nat → List (Option Value) → List (Nat × Value)
  | _, [] => []
  | i, none :: r => enc (i + 1) r
  | i, some v :: r => (i, v) :: enc (i + 1) r
theorem enc_mem : ∀ (L : List (Option Value)) (i j : Nat) (w : Value), (j, w) ∈ enc i L ↔ i ≤ j ∧ L[j - i]? = some (some w)
  | [], i, j, w => by simp [enc]
  | none :: r, i, j, w => by
    simp only [enc]
    rw [enc_mem r (i + 1) j w]
    constructor
    · rintro ⟨h1, h2⟩
      refine ⟨by omega, ?_⟩
      rw [show j - i = (j - (i + 1)) + 1 by omega, List.getElem?_cons_succ]
      exact h2
    · rintro ⟨h1, h2⟩
      have hne : j ≠ i := by
        intro e
        subst e
        simp at h2
      refine ⟨by omega, ?_⟩
      rw [show j - i = (j - (i + 1)) + 1 by omega, List.getElem?_cons_succ] at h2
      exact h2
  | some v :: r, i, j, w => by
    simp only [enc, List.mem_cons, Prod.mk.injEq]
    rw [enc_mem r (i + 1) j w]
    constructor
    · rintro (⟨h1, h2⟩ | ⟨h1, h2⟩)
      · subst h1; subst h2
        exact ⟨Nat.le_refl _, by simp⟩
      · refine ⟨by omega, ?_⟩
        rw [show j - i = (j - (i + 1)) + 1 by omega, List.getElem?_cons_succ]
        exact h2
    · rintro ⟨h1, h2⟩
      by_cases hji : j = i
      · subst hji
        rw [Nat.sub_self, List.getElem?_cons_zero] at h2
        simp only [Option.some.injEq] at h2
        exact Or.inl ⟨rfl, h2.symm⟩
      · right
        refine ⟨by omega, ?_⟩
        rw [show j - i = (j - (i + 1)) + 1 by omega, List.getElem?_cons_succ] at h2
        exact h2
def LH (ls : Array Slot) (nL : Nat) (L : List (Option Value)) : Prop := lv_has ls nL (enc 0 L)
def c1 : List (Option Value) → Bool
  | [] => true
  | none :: r => c1 r
  | some v :: r => v.category == 1 && c1 r
theorem c1_mem : ∀ (L : List (Option Value)), c1 L = true → ∀ w : Value, some w ∈ L → w.category = 1
  | [], _, w, h => by simp at h
  | none :: r, hc, w, h => by
    rcases List.mem_cons.mp h with h1 | h1
    · cases h1
    · exact c1_mem r hc w h1
  | some v :: r, hc, w, h => by
    simp only [c1, Bool.and_eq_true, beq_iff_eq] at hc
    rcases List.mem_cons.mp h with h1 | h1
    · cases h1
      exact hc.1
    · exact c1_mem r hc.2 w h1
theorem LH.at {ls : Array Slot} {nL : Nat} {L : List (Option Value)} (h : LH ls nL L) {i : Nat} {v : Value} (hi : L[i]? = some (some v)) : ls[i]? = some (.val v) :=
  h.2.2 (i, v) ((enc_mem L 0 i v).mpr ⟨Nat.zero_le _, hi⟩)
theorem LH.set {ls' : Array Slot} {nL i : Nat} {L : List (Option Value)} {v : Value} (hc : c1 L = true) (hi : i < L.length) (h' : lv_has ls' nL ((i, v) :: (enc 0 L).filter (fun q => !(q.1 == i) && !(q.1 + 1 == i && q.2.category == 2)))) : LH ls' nL (L.set i (some v)) := by
  refine ⟨h'.1, h'.2.1, fun q hq => h'.2.2 q ?_⟩
  obtain ⟨j, w⟩ := q
  have hj := ((enc_mem _ 0 j w).mp hq).2
  rw [Nat.sub_zero] at hj
  by_cases hji : j = i
  · subst hji
    rw [List.getElem?_set_self hi] at hj
    simp only [Option.some.injEq] at hj
    rw [← hj]
    exact List.mem_cons_self
  · rw [List.getElem?_set_ne (Ne.symm hji)] at hj
    refine List.mem_cons_of_mem _ (List.mem_filter.mpr ⟨(enc_mem L 0 j w).mpr ⟨Nat.zero_le _, hj⟩, ?_⟩)
    have h1 := c1_mem L hc w (List.mem_of_getElem? hj)
    simp [hji, h1]
/-- how a method ends: an answer and a heap -/
def Qg (D : va_G) (cA : Nat → ClassId) (N0 : Nat) (post : Option Value → AH → Prop) : Array Value → State → Outcome → State → Prop := fun _ st oc t => (∃ (r : Option Value) (h' : AH), oc = .returned r ∧ post r h' ∧ Rh D cA N0 h' t.heap) ∧ va_F (fun q => N0 ≤ q) st t

/-- what stands all along a method's walk -/
def Cx (D : va_G) (cA : Nat → ClassId) (N0 : Nat) (own : String) (cc : ByteArray) (nL : Nat) (ret : Option FieldType) (nm : String) (X : State → Prop) (p : Program) (s : State) (m : MethodId) (args : Array Value) (meth : Method) (c : Code) : Prop :=
  p.tables.exec = Jvm.exec ∧ c.code = cc ∧ c.maxLocals = nL ∧ meth.sig.returnType = ret ∧ meth.locks = false ∧ s.vm.findClass own = some m.cls ∧ meth.name = nm ∧ (∀ w ∈ WSa, w.before args s = true) ∧ KK D cA s ∧ N0 ≤ s.heap.size ∧ X s
def Run (l : Launch) (D : va_G) (cA : Nat → ClassId) (N0 : Nat) (own : String) (cc : ByteArray) (nL : Nat) (ret : Option FieldType) (nm : String) (R : Room) (X : State → Prop) (F : List Frame → Array Value → State → State → Prop) (h : AH) (k n pc : Nat) (L : List (Option Value)) (st : List Value) : Prop :=
  ∀ (p : Program) (e : Env) (s : State) (m : MethodId) (args : Array Value) (below : List Frame) (meth : Method) (c : Code) (H : Heap) (locs : List Loc) (ls : Array Slot),
    Cx D cA N0 own cc nL ret nm X p s m args meth c → Rh D cA N0 h H → va_S (fun q => N0 ≤ q) s.heap H locs → LH ls nL L → W p l e R s m args below meth c H locs k n (F below args s) (F0 m pc ls st)
/-- a method: its name, code, number of locals, what it returns -/
abbrev MI : Type := MethodName × ByteArray × Nat × Option FieldType
abbrev rmD (d mc ms : Nat) : Room := { frames := d, cells := mc, slots := ms, locals := 36 * d }
def Spec (l : Launch) (D : va_G) (cA : Nat → ClassId) (N0 : Nat) (M : MI) (d mc ms : Nat) (args : List Value) (h : AH) (post : Option Value → AH → Prop) : Prop :=
  Met l M.1 (Cond.code M.1 M.2.1 M.2.2.1 M.2.2.2 :: WSa) (rmD d mc ms) (va_Pc args (fun U => Rh D cA N0 h U.heap ∧ KK D cA U ∧ N0 ≤ U.heap.size)) (Qg D cA N0 post) mc ms (fun q => N0 ≤ q)
abbrev FM (D : va_G) (cA : Nat → ClassId) (N0 : Nat) (post : Option Value → AH → Prop) (mc ms : Nat) : List Frame → Array Value → State → State → Prop := fun below args s => MQ below (Qg D cA N0 post) args s mc ms (fun q => N0 ≤ q)
abbrev RunM (l : Launch) (D : va_G) (cA : Nat → ClassId) (N0 : Nat) (M : MI) (d mc ms : Nat) (post : Option Value → AH → Prop) : AH → Nat → Nat → Nat → List (Option Value) → List Value → Prop :=
  Run l D cA N0 M.1.cls M.2.1 M.2.2.1 M.2.2.2 M.1.name (rmD d mc ms) (fun _ => True) (FM D cA N0 post mc ms)
theorem Spec.of {l : Launch} {D : va_G} {cA : Nat → ClassId} {N0 : Nat} {M : MI} {d mc ms : Nat} {args : List Value} {h : AH} {post : Option Value → AH → Prop} {L : List (Option Value)} (hy : plainName M.1.cls = true) (hL : enc 0 L = lv_args 0 args) (hlen : (lg_sl args).length ≤ M.2.2.1)
    (k : RunM l D cA N0 M d mc ms post h 0 0 0 L []) : Spec l D cA N0 M d mc ms args h post := by
  refine Met.ofW (cc := M.2.1) (maxL := M.2.2.1) (ret := M.2.2.2) hy rfl ?_
  intro p e s m a below meth c s₁ B hml hv
  obtain ⟨rfl, hR, hK, hN⟩ := hv
  have hts := atoms_spec (ws := Cond.code M.1 M.2.1 M.2.2.1 M.2.2.2 :: WSa) B.pre
  have hown : s.vm.findClass M.1.cls = some m.cls := findClass_of_methodNamed B.named
  have hl := lv_entry args (n := M.2.2.1) hlen
  rw [lg_entry_eq]
  exact k p e s m args.toArray below meth c s.heap [] _ ⟨B.exec, B.bytes, hml, B.returns, B.notSynchronized, hown, (name_of_methodNamed B.named B.method).1, fun w hw => hts w (List.mem_cons_of_mem _ hw), hK, hN, trivial⟩ hR va_S.rf (by rw [LH, hL]; exact hl)
section RR
variable {l : Launch} {D : va_G} {cA : Nat → ClassId} {N0 : Nat} {own : String} {cc : ByteArray} {nL : Nat} {ret : Option FieldType} {nm : String} {R : Room} {X : State → Prop} {F : List Frame → Array Value → State → State → Prop} {h : AH} {k n pc : Nat} {L : List (Option Value)} {st : List Value}
theorem R_iconst {z : Int} {v : Int32} (hd : decode cc pc = .ok (.iconst z, 1)) (hv : Int32.ofInt z = v) (kk : Run l D cA N0 own cc nL ret nm R X F h k n (pc + 1) L (.int v :: st)) : Run l D cA N0 own cc nL ret nm R X F h k n (pc) L (st) := by
  intro p e s m args below meth c H locs ls Cc hR hS hL
  obtain ⟨hx, hb, hml, hrt, hlk, hown, hnm, hts, hK, hN, hX⟩ := id Cc
  exact lv_iconst hx hb hd hv (kk p e s m args below meth c H locs ls Cc hR hS hL)
theorem R_bipush {z : Int} {v : Int32} (hd : decode cc pc = .ok (.bipush z, 2)) (hv : (Int8.ofInt z).toInt32 = v) (kk : Run l D cA N0 own cc nL ret nm R X F h k n (pc + 2) L (.int v :: st)) : Run l D cA N0 own cc nL ret nm R X F h k n (pc) L (st) := by
  intro p e s m args below meth c H locs ls Cc hR hS hL
  obtain ⟨hx, hb, hml, hrt, hlk, hown, hnm, hts, hK, hN, hX⟩ := id Cc
  exact lv_bipush hx hb hd hv (kk p e s m args below meth c H locs ls Cc hR hS hL)
theorem R_sipush {z : Int} {v : Int32} (hd : decode cc pc = .ok (.sipush z, 3)) (hv : (Int16.ofInt z).toInt32 = v) (kk : Run l D cA N0 own cc nL ret nm R X F h k n (pc + 3) L (.int v :: st)) : Run l D cA N0 own cc nL ret nm R X F h k n (pc) L (st) := by
  intro p e s m args below meth c H locs ls Cc hR hS hL
  obtain ⟨hx, hb, hml, hrt, hlk, hown, hnm, hts, hK, hN, hX⟩ := id Cc
  exact lv_sipush hx hb hd hv (kk p e s m args below meth c H locs ls Cc hR hS hL)
theorem R_lconst {z : Fin 2} {v : Int64} (hd : decode cc pc = .ok (.lconst z, 1)) (hv : Int64.ofNat (z : Nat) = v) (kk : Run l D cA N0 own cc nL ret nm R X F h k n (pc + 1) L (.long v :: st)) : Run l D cA N0 own cc nL ret nm R X F h k n (pc) L (st) := by
  intro p e s m args below meth c H locs ls Cc hR hS hL
  obtain ⟨hx, hb, hml, hrt, hlk, hown, hnm, hts, hK, hN, hX⟩ := id Cc
  exact lv_lconst hx hb hd hv (kk p e s m args below meth c H locs ls Cc hR hS hL)
theorem R_ldc {i : Nat} {v : Int32} (hd : decode cc pc = .ok (.ldc i, 2)) (hw : Cond.constant own i v ∈ WSa) (kk : Run l D cA N0 own cc nL ret nm R X F h k n (pc + 2) L (.int v :: st)) : Run l D cA N0 own cc nL ret nm R X F h k n (pc) L (st) := by
  intro p e s m args below meth c H locs ls Cc hR hS hL
  obtain ⟨hx, hb, hml, hrt, hlk, hown, hnm, hts, hK, hN, hX⟩ := id Cc
  exact lv_ldc hx hb hown (hts _ hw) hd (kk p e s m args below meth c H locs ls Cc hR hS hL)
theorem R_ldcw {i : Nat} {v : Int32} (hd : decode cc pc = .ok (.ldc_w i, 3)) (hw : Cond.constant own i v ∈ WSa) (kk : Run l D cA N0 own cc nL ret nm R X F h k n (pc + 3) L (.int v :: st)) : Run l D cA N0 own cc nL ret nm R X F h k n (pc) L (st) := by
  intro p e s m args below meth c H locs ls Cc hR hS hL
  obtain ⟨hx, hb, hml, hrt, hlk, hown, hnm, hts, hK, hN, hX⟩ := id Cc
  exact lv_ldcw hx hb hown (hts _ hw) hd (kk p e s m args below meth c H locs ls Cc hR hS hL)
theorem R_ldc2 {i : Nat} {v : Int64} (hd : decode cc pc = .ok (.ldc2_w i, 3)) (hw : Cond.constantLong own i v ∈ WSa) (kk : Run l D cA N0 own cc nL ret nm R X F h k n (pc + 3) L (.long v :: st)) : Run l D cA N0 own cc nL ret nm R X F h k n (pc) L (st) := by
  intro p e s m args below meth c H locs ls Cc hR hS hL
  obtain ⟨hx, hb, hml, hrt, hlk, hown, hnm, hts, hK, hN, hX⟩ := id Cc
  exact lv_ldc2 hx hb hown (hts _ hw) hd (kk p e s m args below meth c H locs ls Cc hR hS hL)
theorem R_null (hd : decode cc pc = .ok (.aconst_null, 1)) (kk : Run l D cA N0 own cc nL ret nm R X F h k n (pc + 1) L (.null :: st)) : Run l D cA N0 own cc nL ret nm R X F h k n (pc) L (st) := by
  intro p e s m args below meth c H locs ls Cc hR hS hL
  obtain ⟨hx, hb, hml, hrt, hlk, hown, hnm, hts, hK, hN, hX⟩ := id Cc
  exact lv_null hx hb hd (kk p e s m args below meth c H locs ls Cc hR hS hL)
theorem R_iload_nG {j : Fin 4} {x : Int32} (hd : decode cc pc = .ok (.iload_n j, 1)) (hj : L[(j : Nat)]? = some (some (.int x))) (kk : Run l D cA N0 own cc nL ret nm R X F h k n (pc + 1) L (.int x :: st)) : Run l D cA N0 own cc nL ret nm R X F h k n (pc) L (st) := by
  intro p e s m args below meth c H locs ls Cc hR hS hL
  obtain ⟨hx, hb, hml, hrt, hlk, hown, hnm, hts, hK, hN, hX⟩ := id Cc
  exact lv_iload_n hx hb hd rfl (hL.at hj) (kk p e s m args below meth c H locs ls Cc hR hS hL)
theorem R_iloadG {j : Nat} {x : Int32} (hd : decode cc pc = .ok (.iload j, 2)) (hj : L[j]? = some (some (.int x))) (kk : Run l D cA N0 own cc nL ret nm R X F h k n (pc + 2) L (.int x :: st)) : Run l D cA N0 own cc nL ret nm R X F h k n (pc) L (st) := by
  intro p e s m args below meth c H locs ls Cc hR hS hL
  obtain ⟨hx, hb, hml, hrt, hlk, hown, hnm, hts, hK, hN, hX⟩ := id Cc
  exact lv_iload hx hb hd (hL.at hj) (kk p e s m args below meth c H locs ls Cc hR hS hL)
theorem R_lload_nG {j : Fin 4} {x : Int64} (hd : decode cc pc = .ok (.lload_n j, 1)) (hj : L[(j : Nat)]? = some (some (.long x))) (kk : Run l D cA N0 own cc nL ret nm R X F h k n (pc + 1) L (.long x :: st)) : Run l D cA N0 own cc nL ret nm R X F h k n (pc) L (st) := by
  intro p e s m args below meth c H locs ls Cc hR hS hL
  obtain ⟨hx, hb, hml, hrt, hlk, hown, hnm, hts, hK, hN, hX⟩ := id Cc
  exact lv_lload_n hx hb hd rfl (hL.at hj) (kk p e s m args below meth c H locs ls Cc hR hS hL)
theorem R_lloadG {j : Nat} {x : Int64} (hd : decode cc pc = .ok (.lload j, 2)) (hj : L[j]? = some (some (.long x))) (kk : Run l D cA N0 own cc nL ret nm R X F h k n (pc + 2) L (.long x :: st)) : Run l D cA N0 own cc nL ret nm R X F h k n (pc) L (st) := by
  intro p e s m args below meth c H locs ls Cc hR hS hL
  obtain ⟨hx, hb, hml, hrt, hlk, hown, hnm, hts, hK, hN, hX⟩ := id Cc
  exact lv_lload hx hb hd (hL.at hj) (kk p e s m args below meth c H locs ls Cc hR hS hL)
theorem R_aload_nG {j : Fin 4} {x : Nat} (hd : decode cc pc = .ok (.aload_n j, 1)) (hj : L[(j : Nat)]? = some (some (.ref x))) (kk : Run l D cA N0 own cc nL ret nm R X F h k n (pc + 1) L (.ref x :: st)) : Run l D cA N0 own cc nL ret nm R X F h k n (pc) L (st) := by
  intro p e s m args below meth c H locs ls Cc hR hS hL
  obtain ⟨hx, hb, hml, hrt, hlk, hown, hnm, hts, hK, hN, hX⟩ := id Cc
  exact lv_aload_n hx hb hd rfl (hL.at hj) (kk p e s m args below meth c H locs ls Cc hR hS hL)
theorem R_aloadG {j : Nat} {x : Nat} (hd : decode cc pc = .ok (.aload j, 2)) (hj : L[j]? = some (some (.ref x))) (kk : Run l D cA N0 own cc nL ret nm R X F h k n (pc + 2) L (.ref x :: st)) : Run l D cA N0 own cc nL ret nm R X F h k n (pc) L (st) := by
  intro p e s m args below meth c H locs ls Cc hR hS hL
  obtain ⟨hx, hb, hml, hrt, hlk, hown, hnm, hts, hK, hN, hX⟩ := id Cc
  exact lv_aload hx hb hd (hL.at hj) (kk p e s m args below meth c H locs ls Cc hR hS hL)
theorem R_aload_nNG {j : Fin 4} (hd : decode cc pc = .ok (.aload_n j, 1)) (hj : L[(j : Nat)]? = some (some .null)) (kk : Run l D cA N0 own cc nL ret nm R X F h k n (pc + 1) L (.null :: st)) : Run l D cA N0 own cc nL ret nm R X F h k n (pc) L (st) := by
  intro p e s m args below meth c H locs ls Cc hR hS hL
  obtain ⟨hx, hb, hml, hrt, hlk, hown, hnm, hts, hK, hN, hX⟩ := id Cc
  exact lv_aload_nN hx hb hd rfl (hL.at hj) (kk p e s m args below meth c H locs ls Cc hR hS hL)
theorem R_aloadNG {j : Nat} (hd : decode cc pc = .ok (.aload j, 2)) (hj : L[j]? = some (some .null)) (kk : Run l D cA N0 own cc nL ret nm R X F h k n (pc + 2) L (.null :: st)) : Run l D cA N0 own cc nL ret nm R X F h k n (pc) L (st) := by
  intro p e s m args below meth c H locs ls Cc hR hS hL
  obtain ⟨hx, hb, hml, hrt, hlk, hown, hnm, hts, hK, hN, hX⟩ := id Cc
  exact lv_aloadN hx hb hd (hL.at hj) (kk p e s m args below meth c H locs ls Cc hR hS hL)
theorem R_istore_nG {j : Fin 4} {x : Int32} (hd : decode cc pc = .ok (.istore_n j, 1)) (hc : c1 L = true) (hi : (j : Nat) < L.length) (hn : (j : Nat) < nL) (kk : Run l D cA N0 own cc nL ret nm R X F h k n (pc + 1) (L.set (j : Nat) (some (.int x))) (st)) : Run l D cA N0 own cc nL ret nm R X F h k n (pc) L (.int x :: st) := by
  intro p e s m args below meth c H locs ls Cc hR hS hL
  obtain ⟨hx, hb, hml, hrt, hlk, hown, hnm, hts, hK, hN, hX⟩ := id Cc
  exact lv_istore_n hx hb hd rfl hL hn rfl (fun ls' h' => kk p e s m args below meth c H locs ls' Cc hR hS (LH.set hc hi h'))
theorem R_istoreG {j : Nat} {x : Int32} (hd : decode cc pc = .ok (.istore j, 2)) (hc : c1 L = true) (hi : (j : Nat) < L.length) (hn : (j : Nat) < nL) (kk : Run l D cA N0 own cc nL ret nm R X F h k n (pc + 2) (L.set (j : Nat) (some (.int x))) (st)) : Run l D cA N0 own cc nL ret nm R X F h k n (pc) L (.int x :: st) := by
  intro p e s m args below meth c H locs ls Cc hR hS hL
  obtain ⟨hx, hb, hml, hrt, hlk, hown, hnm, hts, hK, hN, hX⟩ := id Cc
  exact lv_istore hx hb hd hL hn rfl (fun ls' h' => kk p e s m args below meth c H locs ls' Cc hR hS (LH.set hc hi h'))
theorem R_astore_nG {j : Fin 4} {x : Nat} (hd : decode cc pc = .ok (.astore_n j, 1)) (hc : c1 L = true) (hi : (j : Nat) < L.length) (hn : (j : Nat) < nL) (kk : Run l D cA N0 own cc nL ret nm R X F h k n (pc + 1) (L.set (j : Nat) (some (.ref x))) (st)) : Run l D cA N0 own cc nL ret nm R X F h k n (pc) L (.ref x :: st) := by
  intro p e s m args below meth c H locs ls Cc hR hS hL
  obtain ⟨hx, hb, hml, hrt, hlk, hown, hnm, hts, hK, hN, hX⟩ := id Cc
  exact lv_astore_n hx hb hd rfl hL hn rfl (fun ls' h' => kk p e s m args below meth c H locs ls' Cc hR hS (LH.set hc hi h'))
theorem R_astoreG {j : Nat} {x : Nat} (hd : decode cc pc = .ok (.astore j, 2)) (hc : c1 L = true) (hi : (j : Nat) < L.length) (hn : (j : Nat) < nL) (kk : Run l D cA N0 own cc nL ret nm R X F h k n (pc + 2) (L.set (j : Nat) (some (.ref x))) (st)) : Run l D cA N0 own cc nL ret nm R X F h k n (pc) L (.ref x :: st) := by
  intro p e s m args below meth c H locs ls Cc hR hS hL
  obtain ⟨hx, hb, hml, hrt, hlk, hown, hnm, hts, hK, hN, hX⟩ := id Cc
  exact lv_astore hx hb hd hL hn rfl (fun ls' h' => kk p e s m args below meth c H locs ls' Cc hR hS (LH.set hc hi h'))
theorem R_astoreN_nG {j : Fin 4} (hd : decode cc pc = .ok (.astore_n j, 1)) (hc : c1 L = true) (hi : (j : Nat) < L.length) (hn : (j : Nat) < nL) (kk : Run l D cA N0 own cc nL ret nm R X F h k n (pc + 1) (L.set (j : Nat) (some (.null))) (st)) : Run l D cA N0 own cc nL ret nm R X F h k n (pc) L (.null :: st) := by
  intro p e s m args below meth c H locs ls Cc hR hS hL
  obtain ⟨hx, hb, hml, hrt, hlk, hown, hnm, hts, hK, hN, hX⟩ := id Cc
  exact lv_astore_nN hx hb hd rfl hL hn rfl (fun ls' h' => kk p e s m args below meth c H locs ls' Cc hR hS (LH.set hc hi h'))
theorem R_astoreNG {j : Nat} (hd : decode cc pc = .ok (.astore j, 2)) (hc : c1 L = true) (hi : (j : Nat) < L.length) (hn : (j : Nat) < nL) (kk : Run l D cA N0 own cc nL ret nm R X F h k n (pc + 2) (L.set (j : Nat) (some (.null))) (st)) : Run l D cA N0 own cc nL ret nm R X F h k n (pc) L (.null :: st) := by
  intro p e s m args below meth c H locs ls Cc hR hS hL
  obtain ⟨hx, hb, hml, hrt, hlk, hown, hnm, hts, hK, hN, hX⟩ := id Cc
  exact lv_astoreN hx hb hd hL hn rfl (fun ls' h' => kk p e s m args below meth c H locs ls' Cc hR hS (LH.set hc hi h'))
theorem R_iincG {j : Nat} {z : Int} {x v : Int32} (hd : decode cc pc = .ok (.iinc j z, 3)) (hj : L[j]? = some (some (.int x))) (hv : x + Int32.ofInt z = v) (hc : c1 L = true) (hn : j < nL) (kk : Run l D cA N0 own cc nL ret nm R X F h k n (pc + 3) (L.set j (some (.int v))) (st)) : Run l D cA N0 own cc nL ret nm R X F h k n (pc) L (st) := by
  intro p e s m args below meth c H locs ls Cc hR hS hL
  obtain ⟨hx, hb, hml, hrt, hlk, hown, hnm, hts, hK, hN, hX⟩ := id Cc
  obtain ⟨q, hq⟩ := List.getElem?_of_mem ((enc_mem L 0 j (.int x)).mpr ⟨Nat.zero_le _, hj⟩)
  exact lv_iinc hx hb hd hL hq hv hn rfl (fun ls' h' => kk p e s m args below meth c H locs ls' Cc hR hS (LH.set hc (List.getElem?_eq_some_iff.mp hj).1 h'))
theorem R_iload_n0 {x : Int32} (hd : decode cc pc = .ok (.iload_n 0, 1)) (kk : Run l D cA N0 own cc nL ret nm R X F h k n (pc + 1) (some (.int x) :: L) (.int x :: st)) : Run l D cA N0 own cc nL ret nm R X F h k n (pc) (some (.int x) :: L) (st) := R_iload_nG hd rfl kk
theorem R_iload0 {x : Int32} (hd : decode cc pc = .ok (.iload 0, 2)) (kk : Run l D cA N0 own cc nL ret nm R X F h k n (pc + 2) (some (.int x) :: L) (.int x :: st)) : Run l D cA N0 own cc nL ret nm R X F h k n (pc) (some (.int x) :: L) (st) := R_iloadG hd rfl kk
theorem R_aload_n0 {x : Nat} (hd : decode cc pc = .ok (.aload_n 0, 1)) (kk : Run l D cA N0 own cc nL ret nm R X F h k n (pc + 1) (some (.ref x) :: L) (.ref x :: st)) : Run l D cA N0 own cc nL ret nm R X F h k n (pc) (some (.ref x) :: L) (st) := R_aload_nG hd rfl kk
theorem R_aload0 {x : Nat} (hd : decode cc pc = .ok (.aload 0, 2)) (kk : Run l D cA N0 own cc nL ret nm R X F h k n (pc + 2) (some (.ref x) :: L) (.ref x :: st)) : Run l D cA N0 own cc nL ret nm R X F h k n (pc) (some (.ref x) :: L) (st) := R_aloadG hd rfl kk
theorem R_lload_n0 {x : Int64} (hd : decode cc pc = .ok (.lload_n 0, 1)) (kk : Run l D cA N0 own cc nL ret nm R X F h k n (pc + 1) (some (.long x) :: L) (.long x :: st)) : Run l D cA N0 own cc nL ret nm R X F h k n (pc) (some (.long x) :: L) (st) := R_lload_nG hd rfl kk
theorem R_lload0 {x : Int64} (hd : decode cc pc = .ok (.lload 0, 2)) (kk : Run l D cA N0 own cc nL ret nm R X F h k n (pc + 2) (some (.long x) :: L) (.long x :: st)) : Run l D cA N0 own cc nL ret nm R X F h k n (pc) (some (.long x) :: L) (st) := R_lloadG hd rfl kk
theorem R_aloadN_n0 (hd : decode cc pc = .ok (.aload_n 0, 1)) (kk : Run l D cA N0 own cc nL ret nm R X F h k n (pc + 1) (some .null :: L) (.null :: st)) : Run l D cA N0 own cc nL ret nm R X F h k n (pc) (some .null :: L) (st) := R_aload_nNG hd rfl kk
theorem R_istore_n0 {o : Option Value} {x : Int32} (hd : decode cc pc = .ok (.istore_n 0, 1)) (hc : c1 (o :: L) = true) (hn : 0 < nL) (kk : Run l D cA N0 own cc nL ret nm R X F h k n (pc + 1) (some (.int x) :: L) (st)) : Run l D cA N0 own cc nL ret nm R X F h k n (pc) (o :: L) (.int x :: st) := R_istore_nG hd hc (by simp only [List.length_cons]; show _ < _ + 1; omega) hn kk
theorem R_astore_n0 {o : Option Value} {x : Nat} (hd : decode cc pc = .ok (.astore_n 0, 1)) (hc : c1 (o :: L) = true) (hn : 0 < nL) (kk : Run l D cA N0 own cc nL ret nm R X F h k n (pc + 1) (some (.ref x) :: L) (st)) : Run l D cA N0 own cc nL ret nm R X F h k n (pc) (o :: L) (.ref x :: st) := R_astore_nG hd hc (by simp only [List.length_cons]; show _ < _ + 1; omega) hn kk
theorem R_astoreN_n0 {o : Option Value} (hd : decode cc pc = .ok (.astore_n 0, 1)) (hc : c1 (o :: L) = true) (hn : 0 < nL) (kk : Run l D cA N0 own cc nL ret nm R X F h k n (pc + 1) (some (.null) :: L) (st)) : Run l D cA N0 own cc nL ret nm R X F h k n (pc) (o :: L) (.null :: st) := R_astoreN_nG hd hc (by simp only [List.length_cons]; show _ < _ + 1; omega) hn kk
theorem R_aloadN0 (hd : decode cc pc = .ok (.aload 0, 2)) (kk : Run l D cA N0 own cc nL ret nm R X F h k n (pc + 2) (some .null :: L) (.null :: st)) : Run l D cA N0 own cc nL ret nm R X F h k n (pc) (some .null :: L) (st) := R_aloadNG hd rfl kk
theorem R_istore0 {o : Option Value} {x : Int32} (hd : decode cc pc = .ok (.istore 0, 2)) (hc : c1 (o :: L) = true) (hn : 0 < nL) (kk : Run l D cA N0 own cc nL ret nm R X F h k n (pc + 2) (some (.int x) :: L) (st)) : Run l D cA N0 own cc nL ret nm R X F h k n (pc) (o :: L) (.int x :: st) := R_istoreG hd hc (by simp only [List.length_cons]; show _ < _ + 1; omega) hn kk
theorem R_astore0 {o : Option Value} {x : Nat} (hd : decode cc pc = .ok (.astore 0, 2)) (hc : c1 (o :: L) = true) (hn : 0 < nL) (kk : Run l D cA N0 own cc nL ret nm R X F h k n (pc + 2) (some (.ref x) :: L) (st)) : Run l D cA N0 own cc nL ret nm R X F h k n (pc) (o :: L) (.ref x :: st) := R_astoreG hd hc (by simp only [List.length_cons]; show _ < _ + 1; omega) hn kk
theorem R_astoreN0 {o : Option Value} (hd : decode cc pc = .ok (.astore 0, 2)) (hc : c1 (o :: L) = true) (hn : 0 < nL) (kk : Run l D cA N0 own cc nL ret nm R X F h k n (pc + 2) (some (.null) :: L) (st)) : Run l D cA N0 own cc nL ret nm R X F h k n (pc) (o :: L) (.null :: st) := R_astoreNG hd hc (by simp only [List.length_cons]; show _ < _ + 1; omega) hn kk
theorem R_iinc0 {x : Int32} {z : Int} (hd : decode cc pc = .ok (.iinc 0 z, 3)) (hc : c1 (some (.int x) :: L) = true) (hn : 0 < nL) (kk : Run l D cA N0 own cc nL ret nm R X F h k n (pc + 3) (some (.int (x + Int32.ofInt z)) :: L) (st)) : Run l D cA N0 own cc nL ret nm R X F h k n (pc) (some (.int x) :: L) (st) := R_iincG hd rfl rfl hc hn kk
theorem R_iload_n1 {a0 : Option Value} {x : Int32} (hd : decode cc pc = .ok (.iload_n 1, 1)) (kk : Run l D cA N0 own cc nL ret nm R X F h k n (pc + 1) (a0 :: some (.int x) :: L) (.int x :: st)) : Run l D cA N0 own cc nL ret nm R X F h k n (pc) (a0 :: some (.int x) :: L) (st) := R_iload_nG hd rfl kk
theorem R_iload1 {a0 : Option Value} {x : Int32} (hd : decode cc pc = .ok (.iload 1, 2)) (kk : Run l D cA N0 own cc nL ret nm R X F h k n (pc + 2) (a0 :: some (.int x) :: L) (.int x :: st)) : Run l D cA N0 own cc nL ret nm R X F h k n (pc) (a0 :: some (.int x) :: L) (st) := R_iloadG hd rfl kk
theorem R_aload_n1 {a0 : Option Value} {x : Nat} (hd : decode cc pc = .ok (.aload_n 1, 1)) (kk : Run l D cA N0 own cc nL ret nm R X F h k n (pc + 1) (a0 :: some (.ref x) :: L) (.ref x :: st)) : Run l D cA N0 own cc nL ret nm R X F h k n (pc) (a0 :: some (.ref x) :: L) (st) := R_aload_nG hd rfl kk
theorem R_aload1 {a0 : Option Value} {x : Nat} (hd : decode cc pc = .ok (.aload 1, 2)) (kk : Run l D cA N0 own cc nL ret nm R X F h k n (pc + 2) (a0 :: some (.ref x) :: L) (.ref x :: st)) : Run l D cA N0 own cc nL ret nm R X F h k n (pc) (a0 :: some (.ref x) :: L) (st) := R_aloadG hd rfl kk
theorem R_aloadN_n1 {a0 : Option Value} (hd : decode cc pc = .ok (.aload_n 1, 1)) (kk : Run l D cA N0 own cc nL ret nm R X F h k n (pc + 1) (a0 :: some .null :: L) (.null :: st)) : Run l D cA N0 own cc nL ret nm R X F h k n (pc) (a0 :: some .null :: L) (st) := R_aload_nNG hd rfl kk
theorem R_istore_n1 {a0 : Option Value} {o : Option Value} {x : Int32} (hd : decode cc pc = .ok (.istore_n 1, 1)) (hc : c1 (a0 :: o :: L) = true) (hn : 1 < nL) (kk : Run l D cA N0 own cc nL ret nm R X F h k n (pc + 1) (a0 :: some (.int x) :: L) (st)) : Run l D cA N0 own cc nL ret nm R X F h k n (pc) (a0 :: o :: L) (.int x :: st) := R_istore_nG hd hc (by simp only [List.length_cons]; show _ < _ + 1; omega) hn kk
theorem R_astore_n1 {a0 : Option Value} {o : Option Value} {x : Nat} (hd : decode cc pc = .ok (.astore_n 1, 1)) (hc : c1 (a0 :: o :: L) = true) (hn : 1 < nL) (kk : Run l D cA N0 own cc nL ret nm R X F h k n (pc + 1) (a0 :: some (.ref x) :: L) (st)) : Run l D cA N0 own cc nL ret nm R X F h k n (pc) (a0 :: o :: L) (.ref x :: st) := R_astore_nG hd hc (by simp only [List.length_cons]; show _ < _ + 1; omega) hn kk
theorem R_astoreN_n1 {a0 : Option Value} {o : Option Value} (hd : decode cc pc = .ok (.astore_n 1, 1)) (hc : c1 (a0 :: o :: L) = true) (hn : 1 < nL) (kk : Run l D cA N0 own cc nL ret nm R X F h k n (pc + 1) (a0 :: some (.null) :: L) (st)) : Run l D cA N0 own cc nL ret nm R X F h k n (pc) (a0 :: o :: L) (.null :: st) := R_astoreN_nG hd hc (by simp only [List.length_cons]; show _ < _ + 1; omega) hn kk
theorem R_aloadN1 {a0 : Option Value} (hd : decode cc pc = .ok (.aload 1, 2)) (kk : Run l D cA N0 own cc nL ret nm R X F h k n (pc + 2) (a0 :: some .null :: L) (.null :: st)) : Run l D cA N0 own cc nL ret nm R X F h k n (pc) (a0 :: some .null :: L) (st) := R_aloadNG hd rfl kk
theorem R_istore1 {a0 : Option Value} {o : Option Value} {x : Int32} (hd : decode cc pc = .ok (.istore 1, 2)) (hc : c1 (a0 :: o :: L) = true) (hn : 1 < nL) (kk : Run l D cA N0 own cc nL ret nm R X F h k n (pc + 2) (a0 :: some (.int x) :: L) (st)) : Run l D cA N0 own cc nL ret nm R X F h k n (pc) (a0 :: o :: L) (.int x :: st) := R_istoreG hd hc (by simp only [List.length_cons]; show _ < _ + 1; omega) hn kk
theorem R_astore1 {a0 : Option Value} {o : Option Value} {x : Nat} (hd : decode cc pc = .ok (.astore 1, 2)) (hc : c1 (a0 :: o :: L) = true) (hn : 1 < nL) (kk : Run l D cA N0 own cc nL ret nm R X F h k n (pc + 2) (a0 :: some (.ref x) :: L) (st)) : Run l D cA N0 own cc nL ret nm R X F h k n (pc) (a0 :: o :: L) (.ref x :: st) := R_astoreG hd hc (by simp only [List.length_cons]; show _ < _ + 1; omega) hn kk
theorem R_astoreN1 {a0 : Option Value} {o : Option Value} (hd : decode cc pc = .ok (.astore 1, 2)) (hc : c1 (a0 :: o :: L) = true) (hn : 1 < nL) (kk : Run l D cA N0 own cc nL ret nm R X F h k n (pc + 2) (a0 :: some (.null) :: L) (st)) : Run l D cA N0 own cc nL ret nm R X F h k n (pc) (a0 :: o :: L) (.null :: st) := R_astoreNG hd hc (by simp only [List.length_cons]; show _ < _ + 1; omega) hn kk
theorem R_iinc1 {a0 : Option Value} {x : Int32} {z : Int} (hd : decode cc pc = .ok (.iinc 1 z, 3)) (hc : c1 (a0 :: some (.int x) :: L) = true) (hn : 1 < nL) (kk : Run l D cA N0 own cc nL ret nm R X F h k n (pc + 3) (a0 :: some (.int (x + Int32.ofInt z)) :: L) (st)) : Run l D cA N0 own cc nL ret nm R X F h k n (pc) (a0 :: some (.int x) :: L) (st) := R_iincG hd rfl rfl hc hn kk
theorem R_iload_n2 {a0 a1 : Option Value} {x : Int32} (hd : decode cc pc = .ok (.iload_n 2, 1)) (kk : Run l D cA N0 own cc nL ret nm R X F h k n (pc + 1) (a0 :: a1 :: some (.int x) :: L) (.int x :: st)) : Run l D cA N0 own cc nL ret nm R X F h k n (pc) (a0 :: a1 :: some (.int x) :: L) (st) := R_iload_nG hd rfl kk
theorem R_iload2 {a0 a1 : Option Value} {x : Int32} (hd : decode cc pc = .ok (.iload 2, 2)) (kk : Run l D cA N0 own cc nL ret nm R X F h k n (pc + 2) (a0 :: a1 :: some (.int x) :: L) (.int x :: st)) : Run l D cA N0 own cc nL ret nm R X F h k n (pc) (a0 :: a1 :: some (.int x) :: L) (st) := R_iloadG hd rfl kk
theorem R_aload_n2 {a0 a1 : Option Value} {x : Nat} (hd : decode cc pc = .ok (.aload_n 2, 1)) (kk : Run l D cA N0 own cc nL ret nm R X F h k n (pc + 1) (a0 :: a1 :: some (.ref x) :: L) (.ref x :: st)) : Run l D cA N0 own cc nL ret nm R X F h k n (pc) (a0 :: a1 :: some (.ref x) :: L) (st) := R_aload_nG hd rfl kk
theorem R_aload2 {a0 a1 : Option Value} {x : Nat} (hd : decode cc pc = .ok (.aload 2, 2)) (kk : Run l D cA N0 own cc nL ret nm R X F h k n (pc + 2) (a0 :: a1 :: some (.ref x) :: L) (.ref x :: st)) : Run l D cA N0 own cc nL ret nm R X F h k n (pc) (a0 :: a1 :: some (.ref x) :: L) (st) := R_aloadG hd rfl kk
theorem R_lload_n2 {a0 a1 : Option Value} {x : Int64} (hd : decode cc pc = .ok (.lload_n 2, 1)) (kk : Run l D cA N0 own cc nL ret nm R X F h k n (pc + 1) (a0 :: a1 :: some (.long x) :: L) (.long x :: st)) : Run l D cA N0 own cc nL ret nm R X F h k n (pc) (a0 :: a1 :: some (.long x) :: L) (st) := R_lload_nG hd rfl kk
theorem R_lload2 {a0 a1 : Option Value} {x : Int64} (hd : decode cc pc = .ok (.lload 2, 2)) (kk : Run l D cA N0 own cc nL ret nm R X F h k n (pc + 2) (a0 :: a1 :: some (.long x) :: L) (.long x :: st)) : Run l D cA N0 own cc nL ret nm R X F h k n (pc) (a0 :: a1 :: some (.long x) :: L) (st) := R_lloadG hd rfl kk
theorem R_aloadN_n2 {a0 a1 : Option Value} (hd : decode cc pc = .ok (.aload_n 2, 1)) (kk : Run l D cA N0 own cc nL ret nm R X F h k n (pc + 1) (a0 :: a1 :: some .null :: L) (.null :: st)) : Run l D cA N0 own cc nL ret nm R X F h k n (pc) (a0 :: a1 :: some .null :: L) (st) := R_aload_nNG hd rfl kk
theorem R_istore_n2 {a0 a1 : Option Value} {o : Option Value} {x : Int32} (hd : decode cc pc = .ok (.istore_n 2, 1)) (hc : c1 (a0 :: a1 :: o :: L) = true) (hn : 2 < nL) (kk : Run l D cA N0 own cc nL ret nm R X F h k n (pc + 1) (a0 :: a1 :: some (.int x) :: L) (st)) : Run l D cA N0 own cc nL ret nm R X F h k n (pc) (a0 :: a1 :: o :: L) (.int x :: st) := R_istore_nG hd hc (by simp only [List.length_cons]; show _ < _ + 1; omega) hn kk
theorem R_astore_n2 {a0 a1 : Option Value} {o : Option Value} {x : Nat} (hd : decode cc pc = .ok (.astore_n 2, 1)) (hc : c1 (a0 :: a1 :: o :: L) = true) (hn : 2 < nL) (kk : Run l D cA N0 own cc nL ret nm R X F h k n (pc + 1) (a0 :: a1 :: some (.ref x) :: L) (st)) : Run l D cA N0 own cc nL ret nm R X F h k n (pc) (a0 :: a1 :: o :: L) (.ref x :: st) := R_astore_nG hd hc (by simp only [List.length_cons]; show _ < _ + 1; omega) hn kk
theorem R_astoreN_n2 {a0 a1 : Option Value} {o : Option Value} (hd : decode cc pc = .ok (.astore_n 2, 1)) (hc : c1 (a0 :: a1 :: o :: L) = true) (hn : 2 < nL) (kk : Run l D cA N0 own cc nL ret nm R X F h k n (pc + 1) (a0 :: a1 :: some (.null) :: L) (st)) : Run l D cA N0 own cc nL ret nm R X F h k n (pc) (a0 :: a1 :: o :: L) (.null :: st) := R_astoreN_nG hd hc (by simp only [List.length_cons]; show _ < _ + 1; omega) hn kk
theorem R_aloadN2 {a0 a1 : Option Value} (hd : decode cc pc = .ok (.aload 2, 2)) (kk : Run l D cA N0 own cc nL ret nm R X F h k n (pc + 2) (a0 :: a1 :: some .null :: L) (.null :: st)) : Run l D cA N0 own cc nL ret nm R X F h k n (pc) (a0 :: a1 :: some .null :: L) (st) := R_aloadNG hd rfl kk
theorem R_istore2 {a0 a1 : Option Value} {o : Option Value} {x : Int32} (hd : decode cc pc = .ok (.istore 2, 2)) (hc : c1 (a0 :: a1 :: o :: L) = true) (hn : 2 < nL) (kk : Run l D cA N0 own cc nL ret nm R X F h k n (pc + 2) (a0 :: a1 :: some (.int x) :: L) (st)) : Run l D cA N0 own cc nL ret nm R X F h k n (pc) (a0 :: a1 :: o :: L) (.int x :: st) := R_istoreG hd hc (by simp only [List.length_cons]; show _ < _ + 1; omega) hn kk
theorem R_astore2 {a0 a1 : Option Value} {o : Option Value} {x : Nat} (hd : decode cc pc = .ok (.astore 2, 2)) (hc : c1 (a0 :: a1 :: o :: L) = true) (hn : 2 < nL) (kk : Run l D cA N0 own cc nL ret nm R X F h k n (pc + 2) (a0 :: a1 :: some (.ref x) :: L) (st)) : Run l D cA N0 own cc nL ret nm R X F h k n (pc) (a0 :: a1 :: o :: L) (.ref x :: st) := R_astoreG hd hc (by simp only [List.length_cons]; show _ < _ + 1; omega) hn kk
theorem R_astoreN2 {a0 a1 : Option Value} {o : Option Value} (hd : decode cc pc = .ok (.astore 2, 2)) (hc : c1 (a0 :: a1 :: o :: L) = true) (hn : 2 < nL) (kk : Run l D cA N0 own cc nL ret nm R X F h k n (pc + 2) (a0 :: a1 :: some (.null) :: L) (st)) : Run l D cA N0 own cc nL ret nm R X F h k n (pc) (a0 :: a1 :: o :: L) (.null :: st) := R_astoreNG hd hc (by simp only [List.length_cons]; show _ < _ + 1; omega) hn kk
theorem R_iinc2 {a0 a1 : Option Value} {x : Int32} {z : Int} (hd : decode cc pc = .ok (.iinc 2 z, 3)) (hc : c1 (a0 :: a1 :: some (.int x) :: L) = true) (hn : 2 < nL) (kk : Run l D cA N0 own cc nL ret nm R X F h k n (pc + 3) (a0 :: a1 :: some (.int (x + Int32.ofInt z)) :: L) (st)) : Run l D cA N0 own cc nL ret nm R X F h k n (pc) (a0 :: a1 :: some (.int x) :: L) (st) := R_iincG hd rfl rfl hc hn kk
theorem R_iload_n3 {a0 a1 a2 : Option Value} {x : Int32} (hd : decode cc pc = .ok (.iload_n 3, 1)) (kk : Run l D cA N0 own cc nL ret nm R X F h k n (pc + 1) (a0 :: a1 :: a2 :: some (.int x) :: L) (.int x :: st)) : Run l D cA N0 own cc nL ret nm R X F h k n (pc) (a0 :: a1 :: a2 :: some (.int x) :: L) (st) := R_iload_nG hd rfl kk
theorem R_iload3 {a0 a1 a2 : Option Value} {x : Int32} (hd : decode cc pc = .ok (.iload 3, 2)) (kk : Run l D cA N0 own cc nL ret nm R X F h k n (pc + 2) (a0 :: a1 :: a2 :: some (.int x) :: L) (.int x :: st)) : Run l D cA N0 own cc nL ret nm R X F h k n (pc) (a0 :: a1 :: a2 :: some (.int x) :: L) (st) := R_iloadG hd rfl kk
theorem R_aload_n3 {a0 a1 a2 : Option Value} {x : Nat} (hd : decode cc pc = .ok (.aload_n 3, 1)) (kk : Run l D cA N0 own cc nL ret nm R X F h k n (pc + 1) (a0 :: a1 :: a2 :: some (.ref x) :: L) (.ref x :: st)) : Run l D cA N0 own cc nL ret nm R X F h k n (pc) (a0 :: a1 :: a2 :: some (.ref x) :: L) (st) := R_aload_nG hd rfl kk
theorem R_aload3 {a0 a1 a2 : Option Value} {x : Nat} (hd : decode cc pc = .ok (.aload 3, 2)) (kk : Run l D cA N0 own cc nL ret nm R X F h k n (pc + 2) (a0 :: a1 :: a2 :: some (.ref x) :: L) (.ref x :: st)) : Run l D cA N0 own cc nL ret nm R X F h k n (pc) (a0 :: a1 :: a2 :: some (.ref x) :: L) (st) := R_aloadG hd rfl kk
theorem R_aloadN_n3 {a0 a1 a2 : Option Value} (hd : decode cc pc = .ok (.aload_n 3, 1)) (kk : Run l D cA N0 own cc nL ret nm R X F h k n (pc + 1) (a0 :: a1 :: a2 :: some .null :: L) (.null :: st)) : Run l D cA N0 own cc nL ret nm R X F h k n (pc) (a0 :: a1 :: a2 :: some .null :: L) (st) := R_aload_nNG hd rfl kk
theorem R_istore_n3 {a0 a1 a2 : Option Value} {o : Option Value} {x : Int32} (hd : decode cc pc = .ok (.istore_n 3, 1)) (hc : c1 (a0 :: a1 :: a2 :: o :: L) = true) (hn : 3 < nL) (kk : Run l D cA N0 own cc nL ret nm R X F h k n (pc + 1) (a0 :: a1 :: a2 :: some (.int x) :: L) (st)) : Run l D cA N0 own cc nL ret nm R X F h k n (pc) (a0 :: a1 :: a2 :: o :: L) (.int x :: st) := R_istore_nG hd hc (by simp only [List.length_cons]; show _ < _ + 1; omega) hn kk
theorem R_astore_n3 {a0 a1 a2 : Option Value} {o : Option Value} {x : Nat} (hd : decode cc pc = .ok (.astore_n 3, 1)) (hc : c1 (a0 :: a1 :: a2 :: o :: L) = true) (hn : 3 < nL) (kk : Run l D cA N0 own cc nL ret nm R X F h k n (pc + 1) (a0 :: a1 :: a2 :: some (.ref x) :: L) (st)) : Run l D cA N0 own cc nL ret nm R X F h k n (pc) (a0 :: a1 :: a2 :: o :: L) (.ref x :: st) := R_astore_nG hd hc (by simp only [List.length_cons]; show _ < _ + 1; omega) hn kk
theorem R_astoreN_n3 {a0 a1 a2 : Option Value} {o : Option Value} (hd : decode cc pc = .ok (.astore_n 3, 1)) (hc : c1 (a0 :: a1 :: a2 :: o :: L) = true) (hn : 3 < nL) (kk : Run l D cA N0 own cc nL ret nm R X F h k n (pc + 1) (a0 :: a1 :: a2 :: some (.null) :: L) (st)) : Run l D cA N0 own cc nL ret nm R X F h k n (pc) (a0 :: a1 :: a2 :: o :: L) (.null :: st) := R_astoreN_nG hd hc (by simp only [List.length_cons]; show _ < _ + 1; omega) hn kk
theorem R_aloadN3 {a0 a1 a2 : Option Value} (hd : decode cc pc = .ok (.aload 3, 2)) (kk : Run l D cA N0 own cc nL ret nm R X F h k n (pc + 2) (a0 :: a1 :: a2 :: some .null :: L) (.null :: st)) : Run l D cA N0 own cc nL ret nm R X F h k n (pc) (a0 :: a1 :: a2 :: some .null :: L) (st) := R_aloadNG hd rfl kk
theorem R_istore3 {a0 a1 a2 : Option Value} {o : Option Value} {x : Int32} (hd : decode cc pc = .ok (.istore 3, 2)) (hc : c1 (a0 :: a1 :: a2 :: o :: L) = true) (hn : 3 < nL) (kk : Run l D cA N0 own cc nL ret nm R X F h k n (pc + 2) (a0 :: a1 :: a2 :: some (.int x) :: L) (st)) : Run l D cA N0 own cc nL ret nm R X F h k n (pc) (a0 :: a1 :: a2 :: o :: L) (.int x :: st) := R_istoreG hd hc (by simp only [List.length_cons]; show _ < _ + 1; omega) hn kk
theorem R_astore3 {a0 a1 a2 : Option Value} {o : Option Value} {x : Nat} (hd : decode cc pc = .ok (.astore 3, 2)) (hc : c1 (a0 :: a1 :: a2 :: o :: L) = true) (hn : 3 < nL) (kk : Run l D cA N0 own cc nL ret nm R X F h k n (pc + 2) (a0 :: a1 :: a2 :: some (.ref x) :: L) (st)) : Run l D cA N0 own cc nL ret nm R X F h k n (pc) (a0 :: a1 :: a2 :: o :: L) (.ref x :: st) := R_astoreG hd hc (by simp only [List.length_cons]; show _ < _ + 1; omega) hn kk
theorem R_astoreN3 {a0 a1 a2 : Option Value} {o : Option Value} (hd : decode cc pc = .ok (.astore 3, 2)) (hc : c1 (a0 :: a1 :: a2 :: o :: L) = true) (hn : 3 < nL) (kk : Run l D cA N0 own cc nL ret nm R X F h k n (pc + 2) (a0 :: a1 :: a2 :: some (.null) :: L) (st)) : Run l D cA N0 own cc nL ret nm R X F h k n (pc) (a0 :: a1 :: a2 :: o :: L) (.null :: st) := R_astoreNG hd hc (by simp only [List.length_cons]; show _ < _ + 1; omega) hn kk
theorem R_iinc3 {a0 a1 a2 : Option Value} {x : Int32} {z : Int} (hd : decode cc pc = .ok (.iinc 3 z, 3)) (hc : c1 (a0 :: a1 :: a2 :: some (.int x) :: L) = true) (hn : 3 < nL) (kk : Run l D cA N0 own cc nL ret nm R X F h k n (pc + 3) (a0 :: a1 :: a2 :: some (.int (x + Int32.ofInt z)) :: L) (st)) : Run l D cA N0 own cc nL ret nm R X F h k n (pc) (a0 :: a1 :: a2 :: some (.int x) :: L) (st) := R_iincG hd rfl rfl hc hn kk
theorem R_iload4 {a0 a1 a2 a3 : Option Value} {x : Int32} (hd : decode cc pc = .ok (.iload 4, 2)) (kk : Run l D cA N0 own cc nL ret nm R X F h k n (pc + 2) (a0 :: a1 :: a2 :: a3 :: some (.int x) :: L) (.int x :: st)) : Run l D cA N0 own cc nL ret nm R X F h k n (pc) (a0 :: a1 :: a2 :: a3 :: some (.int x) :: L) (st) := R_iloadG hd rfl kk
theorem R_aload4 {a0 a1 a2 a3 : Option Value} {x : Nat} (hd : decode cc pc = .ok (.aload 4, 2)) (kk : Run l D cA N0 own cc nL ret nm R X F h k n (pc + 2) (a0 :: a1 :: a2 :: a3 :: some (.ref x) :: L) (.ref x :: st)) : Run l D cA N0 own cc nL ret nm R X F h k n (pc) (a0 :: a1 :: a2 :: a3 :: some (.ref x) :: L) (st) := R_aloadG hd rfl kk
theorem R_lload4 {a0 a1 a2 a3 : Option Value} {x : Int64} (hd : decode cc pc = .ok (.lload 4, 2)) (kk : Run l D cA N0 own cc nL ret nm R X F h k n (pc + 2) (a0 :: a1 :: a2 :: a3 :: some (.long x) :: L) (.long x :: st)) : Run l D cA N0 own cc nL ret nm R X F h k n (pc) (a0 :: a1 :: a2 :: a3 :: some (.long x) :: L) (st) := R_lloadG hd rfl kk
theorem R_aloadN4 {a0 a1 a2 a3 : Option Value} (hd : decode cc pc = .ok (.aload 4, 2)) (kk : Run l D cA N0 own cc nL ret nm R X F h k n (pc + 2) (a0 :: a1 :: a2 :: a3 :: some .null :: L) (.null :: st)) : Run l D cA N0 own cc nL ret nm R X F h k n (pc) (a0 :: a1 :: a2 :: a3 :: some .null :: L) (st) := R_aloadNG hd rfl kk
theorem R_istore4 {a0 a1 a2 a3 : Option Value} {o : Option Value} {x : Int32} (hd : decode cc pc = .ok (.istore 4, 2)) (hc : c1 (a0 :: a1 :: a2 :: a3 :: o :: L) = true) (hn : 4 < nL) (kk : Run l D cA N0 own cc nL ret nm R X F h k n (pc + 2) (a0 :: a1 :: a2 :: a3 :: some (.int x) :: L) (st)) : Run l D cA N0 own cc nL ret nm R X F h k n (pc) (a0 :: a1 :: a2 :: a3 :: o :: L) (.int x :: st) := R_istoreG hd hc (by simp only [List.length_cons]; show _ < _ + 1; omega) hn kk
theorem R_astore4 {a0 a1 a2 a3 : Option Value} {o : Option Value} {x : Nat} (hd : decode cc pc = .ok (.astore 4, 2)) (hc : c1 (a0 :: a1 :: a2 :: a3 :: o :: L) = true) (hn : 4 < nL) (kk : Run l D cA N0 own cc nL ret nm R X F h k n (pc + 2) (a0 :: a1 :: a2 :: a3 :: some (.ref x) :: L) (st)) : Run l D cA N0 own cc nL ret nm R X F h k n (pc) (a0 :: a1 :: a2 :: a3 :: o :: L) (.ref x :: st) := R_astoreG hd hc (by simp only [List.length_cons]; show _ < _ + 1; omega) hn kk
theorem R_astoreN4 {a0 a1 a2 a3 : Option Value} {o : Option Value} (hd : decode cc pc = .ok (.astore 4, 2)) (hc : c1 (a0 :: a1 :: a2 :: a3 :: o :: L) = true) (hn : 4 < nL) (kk : Run l D cA N0 own cc nL ret nm R X F h k n (pc + 2) (a0 :: a1 :: a2 :: a3 :: some (.null) :: L) (st)) : Run l D cA N0 own cc nL ret nm R X F h k n (pc) (a0 :: a1 :: a2 :: a3 :: o :: L) (.null :: st) := R_astoreNG hd hc (by simp only [List.length_cons]; show _ < _ + 1; omega) hn kk
theorem R_iinc4 {a0 a1 a2 a3 : Option Value} {x : Int32} {z : Int} (hd : decode cc pc = .ok (.iinc 4 z, 3)) (hc : c1 (a0 :: a1 :: a2 :: a3 :: some (.int x) :: L) = true) (hn : 4 < nL) (kk : Run l D cA N0 own cc nL ret nm R X F h k n (pc + 3) (a0 :: a1 :: a2 :: a3 :: some (.int (x + Int32.ofInt z)) :: L) (st)) : Run l D cA N0 own cc nL ret nm R X F h k n (pc) (a0 :: a1 :: a2 :: a3 :: some (.int x) :: L) (st) := R_iincG hd rfl rfl hc hn kk
theorem R_iload5 {a0 a1 a2 a3 a4 : Option Value} {x : Int32} (hd : decode cc pc = .ok (.iload 5, 2)) (kk : Run l D cA N0 own cc nL ret nm R X F h k n (pc + 2) (a0 :: a1 :: a2 :: a3 :: a4 :: some (.int x) :: L) (.int x :: st)) : Run l D cA N0 own cc nL ret nm R X F h k n (pc) (a0 :: a1 :: a2 :: a3 :: a4 :: some (.int x) :: L) (st) := R_iloadG hd rfl kk
theorem R_aload5 {a0 a1 a2 a3 a4 : Option Value} {x : Nat} (hd : decode cc pc = .ok (.aload 5, 2)) (kk : Run l D cA N0 own cc nL ret nm R X F h k n (pc + 2) (a0 :: a1 :: a2 :: a3 :: a4 :: some (.ref x) :: L) (.ref x :: st)) : Run l D cA N0 own cc nL ret nm R X F h k n (pc) (a0 :: a1 :: a2 :: a3 :: a4 :: some (.ref x) :: L) (st) := R_aloadG hd rfl kk
theorem R_aloadN5 {a0 a1 a2 a3 a4 : Option Value} (hd : decode cc pc = .ok (.aload 5, 2)) (kk : Run l D cA N0 own cc nL ret nm R X F h k n (pc + 2) (a0 :: a1 :: a2 :: a3 :: a4 :: some .null :: L) (.null :: st)) : Run l D cA N0 own cc nL ret nm R X F h k n (pc) (a0 :: a1 :: a2 :: a3 :: a4 :: some .null :: L) (st) := R_aloadNG hd rfl kk
theorem R_istore5 {a0 a1 a2 a3 a4 : Option Value} {o : Option Value} {x : Int32} (hd : decode cc pc = .ok (.istore 5, 2)) (hc : c1 (a0 :: a1 :: a2 :: a3 :: a4 :: o :: L) = true) (hn : 5 < nL) (kk : Run l D cA N0 own cc nL ret nm R X F h k n (pc + 2) (a0 :: a1 :: a2 :: a3 :: a4 :: some (.int x) :: L) (st)) : Run l D cA N0 own cc nL ret nm R X F h k n (pc) (a0 :: a1 :: a2 :: a3 :: a4 :: o :: L) (.int x :: st) := R_istoreG hd hc (by simp only [List.length_cons]; show _ < _ + 1; omega) hn kk
theorem R_astore5 {a0 a1 a2 a3 a4 : Option Value} {o : Option Value} {x : Nat} (hd : decode cc pc = .ok (.astore 5, 2)) (hc : c1 (a0 :: a1 :: a2 :: a3 :: a4 :: o :: L) = true) (hn : 5 < nL) (kk : Run l D cA N0 own cc nL ret nm R X F h k n (pc + 2) (a0 :: a1 :: a2 :: a3 :: a4 :: some (.ref x) :: L) (st)) : Run l D cA N0 own cc nL ret nm R X F h k n (pc) (a0 :: a1 :: a2 :: a3 :: a4 :: o :: L) (.ref x :: st) := R_astoreG hd hc (by simp only [List.length_cons]; show _ < _ + 1; omega) hn kk
theorem R_astoreN5 {a0 a1 a2 a3 a4 : Option Value} {o : Option Value} (hd : decode cc pc = .ok (.astore 5, 2)) (hc : c1 (a0 :: a1 :: a2 :: a3 :: a4 :: o :: L) = true) (hn : 5 < nL) (kk : Run l D cA N0 own cc nL ret nm R X F h k n (pc + 2) (a0 :: a1 :: a2 :: a3 :: a4 :: some (.null) :: L) (st)) : Run l D cA N0 own cc nL ret nm R X F h k n (pc) (a0 :: a1 :: a2 :: a3 :: a4 :: o :: L) (.null :: st) := R_astoreNG hd hc (by simp only [List.length_cons]; show _ < _ + 1; omega) hn kk
theorem R_iinc5 {a0 a1 a2 a3 a4 : Option Value} {x : Int32} {z : Int} (hd : decode cc pc = .ok (.iinc 5 z, 3)) (hc : c1 (a0 :: a1 :: a2 :: a3 :: a4 :: some (.int x) :: L) = true) (hn : 5 < nL) (kk : Run l D cA N0 own cc nL ret nm R X F h k n (pc + 3) (a0 :: a1 :: a2 :: a3 :: a4 :: some (.int (x + Int32.ofInt z)) :: L) (st)) : Run l D cA N0 own cc nL ret nm R X F h k n (pc) (a0 :: a1 :: a2 :: a3 :: a4 :: some (.int x) :: L) (st) := R_iincG hd rfl rfl hc hn kk
theorem R_iload6 {a0 a1 a2 a3 a4 a5 : Option Value} {x : Int32} (hd : decode cc pc = .ok (.iload 6, 2)) (kk : Run l D cA N0 own cc nL ret nm R X F h k n (pc + 2) (a0 :: a1 :: a2 :: a3 :: a4 :: a5 :: some (.int x) :: L) (.int x :: st)) : Run l D cA N0 own cc nL ret nm R X F h k n (pc) (a0 :: a1 :: a2 :: a3 :: a4 :: a5 :: some (.int x) :: L) (st) := R_iloadG hd rfl kk
theorem R_aload6 {a0 a1 a2 a3 a4 a5 : Option Value} {x : Nat} (hd : decode cc pc = .ok (.aload 6, 2)) (kk : Run l D cA N0 own cc nL ret nm R X F h k n (pc + 2) (a0 :: a1 :: a2 :: a3 :: a4 :: a5 :: some (.ref x) :: L) (.ref x :: st)) : Run l D cA N0 own cc nL ret nm R X F h k n (pc) (a0 :: a1 :: a2 :: a3 :: a4 :: a5 :: some (.ref x) :: L) (st) := R_aloadG hd rfl kk
theorem R_aloadN6 {a0 a1 a2 a3 a4 a5 : Option Value} (hd : decode cc pc = .ok (.aload 6, 2)) (kk : Run l D cA N0 own cc nL ret nm R X F h k n (pc + 2) (a0 :: a1 :: a2 :: a3 :: a4 :: a5 :: some .null :: L) (.null :: st)) : Run l D cA N0 own cc nL ret nm R X F h k n (pc) (a0 :: a1 :: a2 :: a3 :: a4 :: a5 :: some .null :: L) (st) := R_aloadNG hd rfl kk
theorem R_istore6 {a0 a1 a2 a3 a4 a5 : Option Value} {o : Option Value} {x : Int32} (hd : decode cc pc = .ok (.istore 6, 2)) (hc : c1 (a0 :: a1 :: a2 :: a3 :: a4 :: a5 :: o :: L) = true) (hn : 6 < nL) (kk : Run l D cA N0 own cc nL ret nm R X F h k n (pc + 2) (a0 :: a1 :: a2 :: a3 :: a4 :: a5 :: some (.int x) :: L) (st)) : Run l D cA N0 own cc nL ret nm R X F h k n (pc) (a0 :: a1 :: a2 :: a3 :: a4 :: a5 :: o :: L) (.int x :: st) := R_istoreG hd hc (by simp only [List.length_cons]; show _ < _ + 1; omega) hn kk
theorem R_astore6 {a0 a1 a2 a3 a4 a5 : Option Value} {o : Option Value} {x : Nat} (hd : decode cc pc = .ok (.astore 6, 2)) (hc : c1 (a0 :: a1 :: a2 :: a3 :: a4 :: a5 :: o :: L) = true) (hn : 6 < nL) (kk : Run l D cA N0 own cc nL ret nm R X F h k n (pc + 2) (a0 :: a1 :: a2 :: a3 :: a4 :: a5 :: some (.ref x) :: L) (st)) : Run l D cA N0 own cc nL ret nm R X F h k n (pc) (a0 :: a1 :: a2 :: a3 :: a4 :: a5 :: o :: L) (.ref x :: st) := R_astoreG hd hc (by simp only [List.length_cons]; show _ < _ + 1; omega) hn kk
theorem R_astoreN6 {a0 a1 a2 a3 a4 a5 : Option Value} {o : Option Value} (hd : decode cc pc = .ok (.astore 6, 2)) (hc : c1 (a0 :: a1 :: a2 :: a3 :: a4 :: a5 :: o :: L) = true) (hn : 6 < nL) (kk : Run l D cA N0 own cc nL ret nm R X F h k n (pc + 2) (a0 :: a1 :: a2 :: a3 :: a4 :: a5 :: some (.null) :: L) (st)) : Run l D cA N0 own cc nL ret nm R X F h k n (pc) (a0 :: a1 :: a2 :: a3 :: a4 :: a5 :: o :: L) (.null :: st) := R_astoreNG hd hc (by simp only [List.length_cons]; show _ < _ + 1; omega) hn kk
theorem R_iinc6 {a0 a1 a2 a3 a4 a5 : Option Value} {x : Int32} {z : Int} (hd : decode cc pc = .ok (.iinc 6 z, 3)) (hc : c1 (a0 :: a1 :: a2 :: a3 :: a4 :: a5 :: some (.int x) :: L) = true) (hn : 6 < nL) (kk : Run l D cA N0 own cc nL ret nm R X F h k n (pc + 3) (a0 :: a1 :: a2 :: a3 :: a4 :: a5 :: some (.int (x + Int32.ofInt z)) :: L) (st)) : Run l D cA N0 own cc nL ret nm R X F h k n (pc) (a0 :: a1 :: a2 :: a3 :: a4 :: a5 :: some (.int x) :: L) (st) := R_iincG hd rfl rfl hc hn kk
theorem R_iload7 {a0 a1 a2 a3 a4 a5 a6 : Option Value} {x : Int32} (hd : decode cc pc = .ok (.iload 7, 2)) (kk : Run l D cA N0 own cc nL ret nm R X F h k n (pc + 2) (a0 :: a1 :: a2 :: a3 :: a4 :: a5 :: a6 :: some (.int x) :: L) (.int x :: st)) : Run l D cA N0 own cc nL ret nm R X F h k n (pc) (a0 :: a1 :: a2 :: a3 :: a4 :: a5 :: a6 :: some (.int x) :: L) (st) := R_iloadG hd rfl kk
theorem R_aload7 {a0 a1 a2 a3 a4 a5 a6 : Option Value} {x : Nat} (hd : decode cc pc = .ok (.aload 7, 2)) (kk : Run l D cA N0 own cc nL ret nm R X F h k n (pc + 2) (a0 :: a1 :: a2 :: a3 :: a4 :: a5 :: a6 :: some (.ref x) :: L) (.ref x :: st)) : Run l D cA N0 own cc nL ret nm R X F h k n (pc) (a0 :: a1 :: a2 :: a3 :: a4 :: a5 :: a6 :: some (.ref x) :: L) (st) := R_aloadG hd rfl kk
theorem R_aloadN7 {a0 a1 a2 a3 a4 a5 a6 : Option Value} (hd : decode cc pc = .ok (.aload 7, 2)) (kk : Run l D cA N0 own cc nL ret nm R X F h k n (pc + 2) (a0 :: a1 :: a2 :: a3 :: a4 :: a5 :: a6 :: some .null :: L) (.null :: st)) : Run l D cA N0 own cc nL ret nm R X F h k n (pc) (a0 :: a1 :: a2 :: a3 :: a4 :: a5 :: a6 :: some .null :: L) (st) := R_aloadNG hd rfl kk
theorem R_istore7 {a0 a1 a2 a3 a4 a5 a6 : Option Value} {o : Option Value} {x : Int32} (hd : decode cc pc = .ok (.istore 7, 2)) (hc : c1 (a0 :: a1 :: a2 :: a3 :: a4 :: a5 :: a6 :: o :: L) = true) (hn : 7 < nL) (kk : Run l D cA N0 own cc nL ret nm R X F h k n (pc + 2) (a0 :: a1 :: a2 :: a3 :: a4 :: a5 :: a6 :: some (.int x) :: L) (st)) : Run l D cA N0 own cc nL ret nm R X F h k n (pc) (a0 :: a1 :: a2 :: a3 :: a4 :: a5 :: a6 :: o :: L) (.int x :: st) := R_istoreG hd hc (by simp only [List.length_cons]; show _ < _ + 1; omega) hn kk
theorem R_astore7 {a0 a1 a2 a3 a4 a5 a6 : Option Value} {o : Option Value} {x : Nat} (hd : decode cc pc = .ok (.astore 7, 2)) (hc : c1 (a0 :: a1 :: a2 :: a3 :: a4 :: a5 :: a6 :: o :: L) = true) (hn : 7 < nL) (kk : Run l D cA N0 own cc nL ret nm R X F h k n (pc + 2) (a0 :: a1 :: a2 :: a3 :: a4 :: a5 :: a6 :: some (.ref x) :: L) (st)) : Run l D cA N0 own cc nL ret nm R X F h k n (pc) (a0 :: a1 :: a2 :: a3 :: a4 :: a5 :: a6 :: o :: L) (.ref x :: st) := R_astoreG hd hc (by simp only [List.length_cons]; show _ < _ + 1; omega) hn kk
theorem R_astoreN7 {a0 a1 a2 a3 a4 a5 a6 : Option Value} {o : Option Value} (hd : decode cc pc = .ok (.astore 7, 2)) (hc : c1 (a0 :: a1 :: a2 :: a3 :: a4 :: a5 :: a6 :: o :: L) = true) (hn : 7 < nL) (kk : Run l D cA N0 own cc nL ret nm R X F h k n (pc + 2) (a0 :: a1 :: a2 :: a3 :: a4 :: a5 :: a6 :: some (.null) :: L) (st)) : Run l D cA N0 own cc nL ret nm R X F h k n (pc) (a0 :: a1 :: a2 :: a3 :: a4 :: a5 :: a6 :: o :: L) (.null :: st) := R_astoreNG hd hc (by simp only [List.length_cons]; show _ < _ + 1; omega) hn kk
theorem R_iinc7 {a0 a1 a2 a3 a4 a5 a6 : Option Value} {x : Int32} {z : Int} (hd : decode cc pc = .ok (.iinc 7 z, 3)) (hc : c1 (a0 :: a1 :: a2 :: a3 :: a4 :: a5 :: a6 :: some (.int x) :: L) = true) (hn : 7 < nL) (kk : Run l D cA N0 own cc nL ret nm R X F h k n (pc + 3) (a0 :: a1 :: a2 :: a3 :: a4 :: a5 :: a6 :: some (.int (x + Int32.ofInt z)) :: L) (st)) : Run l D cA N0 own cc nL ret nm R X F h k n (pc) (a0 :: a1 :: a2 :: a3 :: a4 :: a5 :: a6 :: some (.int x) :: L) (st) := R_iincG hd rfl rfl hc hn kk
theorem R_iload8 {a0 a1 a2 a3 a4 a5 a6 a7 : Option Value} {x : Int32} (hd : decode cc pc = .ok (.iload 8, 2)) (kk : Run l D cA N0 own cc nL ret nm R X F h k n (pc + 2) (a0 :: a1 :: a2 :: a3 :: a4 :: a5 :: a6 :: a7 :: some (.int x) :: L) (.int x :: st)) : Run l D cA N0 own cc nL ret nm R X F h k n (pc) (a0 :: a1 :: a2 :: a3 :: a4 :: a5 :: a6 :: a7 :: some (.int x) :: L) (st) := R_iloadG hd rfl kk
theorem R_aload8 {a0 a1 a2 a3 a4 a5 a6 a7 : Option Value} {x : Nat} (hd : decode cc pc = .ok (.aload 8, 2)) (kk : Run l D cA N0 own cc nL ret nm R X F h k n (pc + 2) (a0 :: a1 :: a2 :: a3 :: a4 :: a5 :: a6 :: a7 :: some (.ref x) :: L) (.ref x :: st)) : Run l D cA N0 own cc nL ret nm R X F h k n (pc) (a0 :: a1 :: a2 :: a3 :: a4 :: a5 :: a6 :: a7 :: some (.ref x) :: L) (st) := R_aloadG hd rfl kk
theorem R_aloadN8 {a0 a1 a2 a3 a4 a5 a6 a7 : Option Value} (hd : decode cc pc = .ok (.aload 8, 2)) (kk : Run l D cA N0 own cc nL ret nm R X F h k n (pc + 2) (a0 :: a1 :: a2 :: a3 :: a4 :: a5 :: a6 :: a7 :: some .null :: L) (.null :: st)) : Run l D cA N0 own cc nL ret nm R X F h k n (pc) (a0 :: a1 :: a2 :: a3 :: a4 :: a5 :: a6 :: a7 :: some .null :: L) (st) := R_aloadNG hd rfl kk
theorem R_istore8 {a0 a1 a2 a3 a4 a5 a6 a7 : Option Value} {o : Option Value} {x : Int32} (hd : decode cc pc = .ok (.istore 8, 2)) (hc : c1 (a0 :: a1 :: a2 :: a3 :: a4 :: a5 :: a6 :: a7 :: o :: L) = true) (hn : 8 < nL) (kk : Run l D cA N0 own cc nL ret nm R X F h k n (pc + 2) (a0 :: a1 :: a2 :: a3 :: a4 :: a5 :: a6 :: a7 :: some (.int x) :: L) (st)) : Run l D cA N0 own cc nL ret nm R X F h k n (pc) (a0 :: a1 :: a2 :: a3 :: a4 :: a5 :: a6 :: a7 :: o :: L) (.int x :: st) := R_istoreG hd hc (by simp only [List.length_cons]; show _ < _ + 1; omega) hn kk
theorem R_astore8 {a0 a1 a2 a3 a4 a5 a6 a7 : Option Value} {o : Option Value} {x : Nat} (hd : decode cc pc = .ok (.astore 8, 2)) (hc : c1 (a0 :: a1 :: a2 :: a3 :: a4 :: a5 :: a6 :: a7 :: o :: L) = true) (hn : 8 < nL) (kk : Run l D cA N0 own cc nL ret nm R X F h k n (pc + 2) (a0 :: a1 :: a2 :: a3 :: a4 :: a5 :: a6 :: a7 :: some (.ref x) :: L) (st)) : Run l D cA N0 own cc nL ret nm R X F h k n (pc) (a0 :: a1 :: a2 :: a3 :: a4 :: a5 :: a6 :: a7 :: o :: L) (.ref x :: st) := R_astoreG hd hc (by simp only [List.length_cons]; show _ < _ + 1; omega) hn kk
theorem R_astoreN8 {a0 a1 a2 a3 a4 a5 a6 a7 : Option Value} {o : Option Value} (hd : decode cc pc = .ok (.astore 8, 2)) (hc : c1 (a0 :: a1 :: a2 :: a3 :: a4 :: a5 :: a6 :: a7 :: o :: L) = true) (hn : 8 < nL) (kk : Run l D cA N0 own cc nL ret nm R X F h k n (pc + 2) (a0 :: a1 :: a2 :: a3 :: a4 :: a5 :: a6 :: a7 :: some (.null) :: L) (st)) : Run l D cA N0 own cc nL ret nm R X F h k n (pc) (a0 :: a1 :: a2 :: a3 :: a4 :: a5 :: a6 :: a7 :: o :: L) (.null :: st) := R_astoreNG hd hc (by simp only [List.length_cons]; show _ < _ + 1; omega) hn kk
theorem R_iinc8 {a0 a1 a2 a3 a4 a5 a6 a7 : Option Value} {x : Int32} {z : Int} (hd : decode cc pc = .ok (.iinc 8 z, 3)) (hc : c1 (a0 :: a1 :: a2 :: a3 :: a4 :: a5 :: a6 :: a7 :: some (.int x) :: L) = true) (hn : 8 < nL) (kk : Run l D cA N0 own cc nL ret nm R X F h k n (pc + 3) (a0 :: a1 :: a2 :: a3 :: a4 :: a5 :: a6 :: a7 :: some (.int (x + Int32.ofInt z)) :: L) (st)) : Run l D cA N0 own cc nL ret nm R X F h k n (pc) (a0 :: a1 :: a2 :: a3 :: a4 :: a5 :: a6 :: a7 :: some (.int x) :: L) (st) := R_iincG hd rfl rfl hc hn kk
theorem R_iload9 {a0 a1 a2 a3 a4 a5 a6 a7 a8 : Option Value} {x : Int32} (hd : decode cc pc = .ok (.iload 9, 2)) (kk : Run l D cA N0 own cc nL ret nm R X F h k n (pc + 2) (a0 :: a1 :: a2 :: a3 :: a4 :: a5 :: a6 :: a7 :: a8 :: some (.int x) :: L) (.int x :: st)) : Run l D cA N0 own cc nL ret nm R X F h k n (pc) (a0 :: a1 :: a2 :: a3 :: a4 :: a5 :: a6 :: a7 :: a8 :: some (.int x) :: L) (st) := R_iloadG hd rfl kk
theorem R_aload9 {a0 a1 a2 a3 a4 a5 a6 a7 a8 : Option Value} {x : Nat} (hd : decode cc pc = .ok (.aload 9, 2)) (kk : Run l D cA N0 own cc nL ret nm R X F h k n (pc + 2) (a0 :: a1 :: a2 :: a3 :: a4 :: a5 :: a6 :: a7 :: a8 :: some (.ref x) :: L) (.ref x :: st)) : Run l D cA N0 own cc nL ret nm R X F h k n (pc) (a0 :: a1 :: a2 :: a3 :: a4 :: a5 :: a6 :: a7 :: a8 :: some (.ref x) :: L) (st) := R_aloadG hd rfl kk
theorem R_aloadN9 {a0 a1 a2 a3 a4 a5 a6 a7 a8 : Option Value} (hd : decode cc pc = .ok (.aload 9, 2)) (kk : Run l D cA N0 own cc nL ret nm R X F h k n (pc + 2) (a0 :: a1 :: a2 :: a3 :: a4 :: a5 :: a6 :: a7 :: a8 :: some .null :: L) (.null :: st)) : Run l D cA N0 own cc nL ret nm R X F h k n (pc) (a0 :: a1 :: a2 :: a3 :: a4 :: a5 :: a6 :: a7 :: a8 :: some .null :: L) (st) := R_aloadNG hd rfl kk
theorem R_istore9 {a0 a1 a2 a3 a4 a5 a6 a7 a8 : Option Value} {o : Option Value} {x : Int32} (hd : decode cc pc = .ok (.istore 9, 2)) (hc : c1 (a0 :: a1 :: a2 :: a3 :: a4 :: a5 :: a6 :: a7 :: a8 :: o :: L) = true) (hn : 9 < nL) (kk : Run l D cA N0 own cc nL ret nm R X F h k n (pc + 2) (a0 :: a1 :: a2 :: a3 :: a4 :: a5 :: a6 :: a7 :: a8 :: some (.int x) :: L) (st)) : Run l D cA N0 own cc nL ret nm R X F h k n (pc) (a0 :: a1 :: a2 :: a3 :: a4 :: a5 :: a6 :: a7 :: a8 :: o :: L) (.int x :: st) := R_istoreG hd hc (by simp only [List.length_cons]; show _ < _ + 1; omega) hn kk
theorem R_astore9 {a0 a1 a2 a3 a4 a5 a6 a7 a8 : Option Value} {o : Option Value} {x : Nat} (hd : decode cc pc = .ok (.astore 9, 2)) (hc : c1 (a0 :: a1 :: a2 :: a3 :: a4 :: a5 :: a6 :: a7 :: a8 :: o :: L) = true) (hn : 9 < nL) (kk : Run l D cA N0 own cc nL ret nm R X F h k n (pc + 2) (a0 :: a1 :: a2 :: a3 :: a4 :: a5 :: a6 :: a7 :: a8 :: some (.ref x) :: L) (st)) : Run l D cA N0 own cc nL ret nm R X F h k n (pc) (a0 :: a1 :: a2 :: a3 :: a4 :: a5 :: a6 :: a7 :: a8 :: o :: L) (.ref x :: st) := R_astoreG hd hc (by simp only [List.length_cons]; show _ < _ + 1; omega) hn kk
theorem R_astoreN9 {a0 a1 a2 a3 a4 a5 a6 a7 a8 : Option Value} {o : Option Value} (hd : decode cc pc = .ok (.astore 9, 2)) (hc : c1 (a0 :: a1 :: a2 :: a3 :: a4 :: a5 :: a6 :: a7 :: a8 :: o :: L) = true) (hn : 9 < nL) (kk : Run l D cA N0 own cc nL ret nm R X F h k n (pc + 2) (a0 :: a1 :: a2 :: a3 :: a4 :: a5 :: a6 :: a7 :: a8 :: some (.null) :: L) (st)) : Run l D cA N0 own cc nL ret nm R X F h k n (pc) (a0 :: a1 :: a2 :: a3 :: a4 :: a5 :: a6 :: a7 :: a8 :: o :: L) (.null :: st) := R_astoreNG hd hc (by simp only [List.length_cons]; show _ < _ + 1; omega) hn kk
theorem R_iinc9 {a0 a1 a2 a3 a4 a5 a6 a7 a8 : Option Value} {x : Int32} {z : Int} (hd : decode cc pc = .ok (.iinc 9 z, 3)) (hc : c1 (a0 :: a1 :: a2 :: a3 :: a4 :: a5 :: a6 :: a7 :: a8 :: some (.int x) :: L) = true) (hn : 9 < nL) (kk : Run l D cA N0 own cc nL ret nm R X F h k n (pc + 3) (a0 :: a1 :: a2 :: a3 :: a4 :: a5 :: a6 :: a7 :: a8 :: some (.int (x + Int32.ofInt z)) :: L) (st)) : Run l D cA N0 own cc nL ret nm R X F h k n (pc) (a0 :: a1 :: a2 :: a3 :: a4 :: a5 :: a6 :: a7 :: a8 :: some (.int x) :: L) (st) := R_iincG hd rfl rfl hc hn kk
theorem R_iload10 {a0 a1 a2 a3 a4 a5 a6 a7 a8 a9 : Option Value} {x : Int32} (hd : decode cc pc = .ok (.iload 10, 2)) (kk : Run l D cA N0 own cc nL ret nm R X F h k n (pc + 2) (a0 :: a1 :: a2 :: a3 :: a4 :: a5 :: a6 :: a7 :: a8 :: a9 :: some (.int x) :: L) (.int x :: st)) : Run l D cA N0 own cc nL ret nm R X F h k n (pc) (a0 :: a1 :: a2 :: a3 :: a4 :: a5 :: a6 :: a7 :: a8 :: a9 :: some (.int x) :: L) (st) := R_iloadG hd rfl kk
theorem R_aload10 {a0 a1 a2 a3 a4 a5 a6 a7 a8 a9 : Option Value} {x : Nat} (hd : decode cc pc = .ok (.aload 10, 2)) (kk : Run l D cA N0 own cc nL ret nm R X F h k n (pc + 2) (a0 :: a1 :: a2 :: a3 :: a4 :: a5 :: a6 :: a7 :: a8 :: a9 :: some (.ref x) :: L) (.ref x :: st)) : Run l D cA N0 own cc nL ret nm R X F h k n (pc) (a0 :: a1 :: a2 :: a3 :: a4 :: a5 :: a6 :: a7 :: a8 :: a9 :: some (.ref x) :: L) (st) := R_aloadG hd rfl kk
theorem R_aloadN10 {a0 a1 a2 a3 a4 a5 a6 a7 a8 a9 : Option Value} (hd : decode cc pc = .ok (.aload 10, 2)) (kk : Run l D cA N0 own cc nL ret nm R X F h k n (pc + 2) (a0 :: a1 :: a2 :: a3 :: a4 :: a5 :: a6 :: a7 :: a8 :: a9 :: some .null :: L) (.null :: st)) : Run l D cA N0 own cc nL ret nm R X F h k n (pc) (a0 :: a1 :: a2 :: a3 :: a4 :: a5 :: a6 :: a7 :: a8 :: a9 :: some .null :: L) (st) := R_aloadNG hd rfl kk
theorem R_istore10 {a0 a1 a2 a3 a4 a5 a6 a7 a8 a9 : Option Value} {o : Option Value} {x : Int32} (hd : decode cc pc = .ok (.istore 10, 2)) (hc : c1 (a0 :: a1 :: a2 :: a3 :: a4 :: a5 :: a6 :: a7 :: a8 :: a9 :: o :: L) = true) (hn : 10 < nL) (kk : Run l D cA N0 own cc nL ret nm R X F h k n (pc + 2) (a0 :: a1 :: a2 :: a3 :: a4 :: a5 :: a6 :: a7 :: a8 :: a9 :: some (.int x) :: L) (st)) : Run l D cA N0 own cc nL ret nm R X F h k n (pc) (a0 :: a1 :: a2 :: a3 :: a4 :: a5 :: a6 :: a7 :: a8 :: a9 :: o :: L) (.int x :: st) := R_istoreG hd hc (by simp only [List.length_cons]; show _ < _ + 1; omega) hn kk
theorem R_astore10 {a0 a1 a2 a3 a4 a5 a6 a7 a8 a9 : Option Value} {o : Option Value} {x : Nat} (hd : decode cc pc = .ok (.astore 10, 2)) (hc : c1 (a0 :: a1 :: a2 :: a3 :: a4 :: a5 :: a6 :: a7 :: a8 :: a9 :: o :: L) = true) (hn : 10 < nL) (kk : Run l D cA N0 own cc nL ret nm R X F h k n (pc + 2) (a0 :: a1 :: a2 :: a3 :: a4 :: a5 :: a6 :: a7 :: a8 :: a9 :: some (.ref x) :: L) (st)) : Run l D cA N0 own cc nL ret nm R X F h k n (pc) (a0 :: a1 :: a2 :: a3 :: a4 :: a5 :: a6 :: a7 :: a8 :: a9 :: o :: L) (.ref x :: st) := R_astoreG hd hc (by simp only [List.length_cons]; show _ < _ + 1; omega) hn kk
theorem R_astoreN10 {a0 a1 a2 a3 a4 a5 a6 a7 a8 a9 : Option Value} {o : Option Value} (hd : decode cc pc = .ok (.astore 10, 2)) (hc : c1 (a0 :: a1 :: a2 :: a3 :: a4 :: a5 :: a6 :: a7 :: a8 :: a9 :: o :: L) = true) (hn : 10 < nL) (kk : Run l D cA N0 own cc nL ret nm R X F h k n (pc + 2) (a0 :: a1 :: a2 :: a3 :: a4 :: a5 :: a6 :: a7 :: a8 :: a9 :: some (.null) :: L) (st)) : Run l D cA N0 own cc nL ret nm R X F h k n (pc) (a0 :: a1 :: a2 :: a3 :: a4 :: a5 :: a6 :: a7 :: a8 :: a9 :: o :: L) (.null :: st) := R_astoreNG hd hc (by simp only [List.length_cons]; show _ < _ + 1; omega) hn kk
theorem R_iinc10 {a0 a1 a2 a3 a4 a5 a6 a7 a8 a9 : Option Value} {x : Int32} {z : Int} (hd : decode cc pc = .ok (.iinc 10 z, 3)) (hc : c1 (a0 :: a1 :: a2 :: a3 :: a4 :: a5 :: a6 :: a7 :: a8 :: a9 :: some (.int x) :: L) = true) (hn : 10 < nL) (kk : Run l D cA N0 own cc nL ret nm R X F h k n (pc + 3) (a0 :: a1 :: a2 :: a3 :: a4 :: a5 :: a6 :: a7 :: a8 :: a9 :: some (.int (x + Int32.ofInt z)) :: L) (st)) : Run l D cA N0 own cc nL ret nm R X F h k n (pc) (a0 :: a1 :: a2 :: a3 :: a4 :: a5 :: a6 :: a7 :: a8 :: a9 :: some (.int x) :: L) (st) := R_iincG hd rfl rfl hc hn kk
theorem R_iadd {x y : Int32} (hd : decode cc pc = .ok (.iadd, 1)) (kk : Run l D cA N0 own cc nL ret nm R X F h k n (pc + 1) L (.int (x + y) :: st)) : Run l D cA N0 own cc nL ret nm R X F h k n (pc) L (.int y :: .int x :: st) := by
  intro p e s m args below meth c H locs ls Cc hR hS hL
  obtain ⟨hx, hb, hml, hrt, hlk, hown, hnm, hts, hK, hN, hX⟩ := id Cc
  exact lv_iadd hx hb hd (kk p e s m args below meth c H locs ls Cc hR hS hL)
theorem R_isub {x y : Int32} (hd : decode cc pc = .ok (.isub, 1)) (kk : Run l D cA N0 own cc nL ret nm R X F h k n (pc + 1) L (.int (x - y) :: st)) : Run l D cA N0 own cc nL ret nm R X F h k n (pc) L (.int y :: .int x :: st) := by
  intro p e s m args below meth c H locs ls Cc hR hS hL
  obtain ⟨hx, hb, hml, hrt, hlk, hown, hnm, hts, hK, hN, hX⟩ := id Cc
  exact lv_isub hx hb hd (kk p e s m args below meth c H locs ls Cc hR hS hL)
theorem R_imul {x y : Int32} (hd : decode cc pc = .ok (.imul, 1)) (kk : Run l D cA N0 own cc nL ret nm R X F h k n (pc + 1) L (.int (x * y) :: st)) : Run l D cA N0 own cc nL ret nm R X F h k n (pc) L (.int y :: .int x :: st) := by
  intro p e s m args below meth c H locs ls Cc hR hS hL
  obtain ⟨hx, hb, hml, hrt, hlk, hown, hnm, hts, hK, hN, hX⟩ := id Cc
  exact lv_imul hx hb hd (kk p e s m args below meth c H locs ls Cc hR hS hL)
theorem R_iand {x y : Int32} (hd : decode cc pc = .ok (.iand, 1)) (kk : Run l D cA N0 own cc nL ret nm R X F h k n (pc + 1) L (.int (x &&& y) :: st)) : Run l D cA N0 own cc nL ret nm R X F h k n (pc) L (.int y :: .int x :: st) := by
  intro p e s m args below meth c H locs ls Cc hR hS hL
  obtain ⟨hx, hb, hml, hrt, hlk, hown, hnm, hts, hK, hN, hX⟩ := id Cc
  exact lv_iand hx hb hd (kk p e s m args below meth c H locs ls Cc hR hS hL)
theorem R_ior {x y : Int32} (hd : decode cc pc = .ok (.ior, 1)) (kk : Run l D cA N0 own cc nL ret nm R X F h k n (pc + 1) L (.int (x ||| y) :: st)) : Run l D cA N0 own cc nL ret nm R X F h k n (pc) L (.int y :: .int x :: st) := by
  intro p e s m args below meth c H locs ls Cc hR hS hL
  obtain ⟨hx, hb, hml, hrt, hlk, hown, hnm, hts, hK, hN, hX⟩ := id Cc
  exact lv_ior hx hb hd (kk p e s m args below meth c H locs ls Cc hR hS hL)
theorem R_ixor {x y : Int32} (hd : decode cc pc = .ok (.ixor, 1)) (kk : Run l D cA N0 own cc nL ret nm R X F h k n (pc + 1) L (.int (x ^^^ y) :: st)) : Run l D cA N0 own cc nL ret nm R X F h k n (pc) L (.int y :: .int x :: st) := by
  intro p e s m args below meth c H locs ls Cc hR hS hL
  obtain ⟨hx, hb, hml, hrt, hlk, hown, hnm, hts, hK, hN, hX⟩ := id Cc
  exact lv_ixor hx hb hd (kk p e s m args below meth c H locs ls Cc hR hS hL)
theorem R_ishl {x y : Int32} (hd : decode cc pc = .ok (.ishl, 1)) (kk : Run l D cA N0 own cc nL ret nm R X F h k n (pc + 1) L (.int (x <<< (y &&& 31)) :: st)) : Run l D cA N0 own cc nL ret nm R X F h k n (pc) L (.int y :: .int x :: st) := by
  intro p e s m args below meth c H locs ls Cc hR hS hL
  obtain ⟨hx, hb, hml, hrt, hlk, hown, hnm, hts, hK, hN, hX⟩ := id Cc
  exact lv_ishl hx hb hd (kk p e s m args below meth c H locs ls Cc hR hS hL)
theorem R_ishr {x y : Int32} (hd : decode cc pc = .ok (.ishr, 1)) (kk : Run l D cA N0 own cc nL ret nm R X F h k n (pc + 1) L (.int (x >>> (y &&& 31)) :: st)) : Run l D cA N0 own cc nL ret nm R X F h k n (pc) L (.int y :: .int x :: st) := by
  intro p e s m args below meth c H locs ls Cc hR hS hL
  obtain ⟨hx, hb, hml, hrt, hlk, hown, hnm, hts, hK, hN, hX⟩ := id Cc
  exact lv_ishr hx hb hd (kk p e s m args below meth c H locs ls Cc hR hS hL)
theorem R_iushr {x y : Int32} (hd : decode cc pc = .ok (.iushr, 1)) (kk : Run l D cA N0 own cc nL ret nm R X F h k n (pc + 1) L (.int ((x.toUInt32 >>> (y.toUInt32 &&& Int32.toUInt32 31)).toInt32) :: st)) : Run l D cA N0 own cc nL ret nm R X F h k n (pc) L (.int y :: .int x :: st) := by
  intro p e s m args below meth c H locs ls Cc hR hS hL
  obtain ⟨hx, hb, hml, hrt, hlk, hown, hnm, hts, hK, hN, hX⟩ := id Cc
  exact lv_iushr hx hb hd rfl (kk p e s m args below meth c H locs ls Cc hR hS hL)
theorem R_idiv {x y : Int32} (hd : decode cc pc = .ok (.idiv, 1)) (hy : ¬ y = 0) (kk : Run l D cA N0 own cc nL ret nm R X F h k n (pc + 1) L (.int (x / y) :: st)) : Run l D cA N0 own cc nL ret nm R X F h k n (pc) L (.int y :: .int x :: st) := by
  intro p e s m args below meth c H locs ls Cc hR hS hL
  obtain ⟨hx, hb, hml, hrt, hlk, hown, hnm, hts, hK, hN, hX⟩ := id Cc
  exact lv_idiv hx hb hd hy (kk p e s m args below meth c H locs ls Cc hR hS hL)
theorem R_irem {x y : Int32} (hd : decode cc pc = .ok (.irem, 1)) (hy : ¬ y = 0) (kk : Run l D cA N0 own cc nL ret nm R X F h k n (pc + 1) L (.int (x - x / y * y) :: st)) : Run l D cA N0 own cc nL ret nm R X F h k n (pc) L (.int y :: .int x :: st) := by
  intro p e s m args below meth c H locs ls Cc hR hS hL
  obtain ⟨hx, hb, hml, hrt, hlk, hown, hnm, hts, hK, hN, hX⟩ := id Cc
  exact lv_irem hx hb hd hy (kk p e s m args below meth c H locs ls Cc hR hS hL)
theorem R_i2l {x : Int32} (hd : decode cc pc = .ok (.i2l, 1)) (kk : Run l D cA N0 own cc nL ret nm R X F h k n (pc + 1) L (.long x.toInt64 :: st)) : Run l D cA N0 own cc nL ret nm R X F h k n (pc) L (.int x :: st) := by
  intro p e s m args below meth c H locs ls Cc hR hS hL
  obtain ⟨hx, hb, hml, hrt, hlk, hown, hnm, hts, hK, hN, hX⟩ := id Cc
  exact lv_i2l hx hb hd rfl (kk p e s m args below meth c H locs ls Cc hR hS hL)
theorem R_lcmp {x y : Int64} (hd : decode cc pc = .ok (.lcmp, 1)) (kk : Run l D cA N0 own cc nL ret nm R X F h k n (pc + 1) L (.int (lg_cmp x y) :: st)) : Run l D cA N0 own cc nL ret nm R X F h k n (pc) L (.long y :: .long x :: st) := by
  intro p e s m args below meth c H locs ls Cc hR hS hL
  obtain ⟨hx, hb, hml, hrt, hlk, hown, hnm, hts, hK, hN, hX⟩ := id Cc
  exact W.lcmp hx hb hd (kk p e s m args below meth c H locs ls Cc hR hS hL)
theorem R_pop {v : Value} (hd : decode cc pc = .ok (.pop, 1)) (hv : v.category = 1) (kk : Run l D cA N0 own cc nL ret nm R X F h k n (pc + 1) L (st)) : Run l D cA N0 own cc nL ret nm R X F h k n (pc) L (v :: st) := by
  intro p e s m args below meth c H locs ls Cc hR hS hL
  obtain ⟨hx, hb, hml, hrt, hlk, hown, hnm, hts, hK, hN, hX⟩ := id Cc
  exact lv_pop hx hb hd hv (kk p e s m args below meth c H locs ls Cc hR hS hL)
theorem R_dup {v : Value} (hd : decode cc pc = .ok (.dup, 1)) (hv : v.category = 1) (kk : Run l D cA N0 own cc nL ret nm R X F h k n (pc + 1) L (v :: v :: st)) : Run l D cA N0 own cc nL ret nm R X F h k n (pc) L (v :: st) := by
  intro p e s m args below meth c H locs ls Cc hR hS hL
  obtain ⟨hx, hb, hml, hrt, hlk, hown, hnm, hts, hK, hN, hX⟩ := id Cc
  exact lv_dup hx hb hd hv (kk p e s m args below meth c H locs ls Cc hR hS hL)
theorem R_dup2 {v w : Value} (hd : decode cc pc = .ok (.dup2, 1)) (hv : v.category = 1) (hw : w.category = 1) (kk : Run l D cA N0 own cc nL ret nm R X F h k n (pc + 1) L (v :: w :: v :: w :: st)) : Run l D cA N0 own cc nL ret nm R X F h k n (pc) L (v :: w :: st) := by
  intro p e s m args below meth c H locs ls Cc hR hS hL
  obtain ⟨hx, hb, hml, hrt, hlk, hown, hnm, hts, hK, hN, hX⟩ := id Cc
  exact lv_dup2_11 hx hb hd hv hw (kk p e s m args below meth c H locs ls Cc hR hS hL)
theorem R_goto {off : Int} (tgt : Nat) (hd : decode cc pc = .ok (.goto off, 3)) (ht : (pc : Int) + off = (tgt : Int)) (kk : Run l D cA N0 own cc nL ret nm R X F h k n (tgt) L (st)) : Run l D cA N0 own cc nL ret nm R X F h k n (pc) L (st) := by
  intro p e s m args below meth c H locs ls Cc hR hS hL
  obtain ⟨hx, hb, hml, hrt, hlk, hown, hnm, hts, hK, hN, hX⟩ := id Cc
  exact lv_goto hx hb hd ht (kk p e s m args below meth c H locs ls Cc hR hS hL)
theorem R_if_eq {x : Int32} {off : Int} (tgt : Nat) (hd : decode cc pc = .ok (.ifCond .eq off, 3)) (ht : (pc : Int) + off = (tgt : Int)) (kt : x = 0 → Run l D cA N0 own cc nL ret nm R X F h k n (tgt) L (st)) (kf : ¬ x = 0 → Run l D cA N0 own cc nL ret nm R X F h k n (pc + 3) L (st)) : Run l D cA N0 own cc nL ret nm R X F h k n (pc) L (.int x :: st) := by
  intro p e s m args below meth c H locs ls Cc hR hS hL
  obtain ⟨hx, hb, hml, hrt, hlk, hown, hnm, hts, hK, hN, hX⟩ := id Cc
  exact lv_if_eq hx hb hd ht (fun q => kt q p e s m args below meth c H locs ls Cc hR hS hL) (fun q => kf q p e s m args below meth c H locs ls Cc hR hS hL)
theorem R_icmp_eq {x y : Int32} {off : Int} (tgt : Nat) (hd : decode cc pc = .ok (.if_icmp .eq off, 3)) (ht : (pc : Int) + off = (tgt : Int)) (kt : x = y → Run l D cA N0 own cc nL ret nm R X F h k n (tgt) L (st)) (kf : ¬ x = y → Run l D cA N0 own cc nL ret nm R X F h k n (pc + 3) L (st)) : Run l D cA N0 own cc nL ret nm R X F h k n (pc) L (.int y :: .int x :: st) := by
  intro p e s m args below meth c H locs ls Cc hR hS hL
  obtain ⟨hx, hb, hml, hrt, hlk, hown, hnm, hts, hK, hN, hX⟩ := id Cc
  exact lv_icmp_eq hx hb hd ht (fun q => kt q p e s m args below meth c H locs ls Cc hR hS hL) (fun q => kf q p e s m args below meth c H locs ls Cc hR hS hL)
theorem R_if_ne {x : Int32} {off : Int} (tgt : Nat) (hd : decode cc pc = .ok (.ifCond .ne off, 3)) (ht : (pc : Int) + off = (tgt : Int)) (kt : ¬ x = 0 → Run l D cA N0 own cc nL ret nm R X F h k n (tgt) L (st)) (kf : x = 0 → Run l D cA N0 own cc nL ret nm R X F h k n (pc + 3) L (st)) : Run l D cA N0 own cc nL ret nm R X F h k n (pc) L (.int x :: st) := by
  intro p e s m args below meth c H locs ls Cc hR hS hL
  obtain ⟨hx, hb, hml, hrt, hlk, hown, hnm, hts, hK, hN, hX⟩ := id Cc
  exact lv_if_ne hx hb hd ht (fun q => kt q p e s m args below meth c H locs ls Cc hR hS hL) (fun q => kf q p e s m args below meth c H locs ls Cc hR hS hL)
theorem R_icmp_ne {x y : Int32} {off : Int} (tgt : Nat) (hd : decode cc pc = .ok (.if_icmp .ne off, 3)) (ht : (pc : Int) + off = (tgt : Int)) (kt : ¬ x = y → Run l D cA N0 own cc nL ret nm R X F h k n (tgt) L (st)) (kf : x = y → Run l D cA N0 own cc nL ret nm R X F h k n (pc + 3) L (st)) : Run l D cA N0 own cc nL ret nm R X F h k n (pc) L (.int y :: .int x :: st) := by
  intro p e s m args below meth c H locs ls Cc hR hS hL
  obtain ⟨hx, hb, hml, hrt, hlk, hown, hnm, hts, hK, hN, hX⟩ := id Cc
  exact lv_icmp_ne hx hb hd ht (fun q => kt q p e s m args below meth c H locs ls Cc hR hS hL) (fun q => kf q p e s m args below meth c H locs ls Cc hR hS hL)
theorem R_if_lt {x : Int32} {off : Int} (tgt : Nat) (hd : decode cc pc = .ok (.ifCond .lt off, 3)) (ht : (pc : Int) + off = (tgt : Int)) (kt : x < 0 → Run l D cA N0 own cc nL ret nm R X F h k n (tgt) L (st)) (kf : ¬ x < 0 → Run l D cA N0 own cc nL ret nm R X F h k n (pc + 3) L (st)) : Run l D cA N0 own cc nL ret nm R X F h k n (pc) L (.int x :: st) := by
  intro p e s m args below meth c H locs ls Cc hR hS hL
  obtain ⟨hx, hb, hml, hrt, hlk, hown, hnm, hts, hK, hN, hX⟩ := id Cc
  exact lv_if_lt hx hb hd ht (fun q => kt q p e s m args below meth c H locs ls Cc hR hS hL) (fun q => kf q p e s m args below meth c H locs ls Cc hR hS hL)
theorem R_icmp_lt {x y : Int32} {off : Int} (tgt : Nat) (hd : decode cc pc = .ok (.if_icmp .lt off, 3)) (ht : (pc : Int) + off = (tgt : Int)) (kt : x < y → Run l D cA N0 own cc nL ret nm R X F h k n (tgt) L (st)) (kf : ¬ x < y → Run l D cA N0 own cc nL ret nm R X F h k n (pc + 3) L (st)) : Run l D cA N0 own cc nL ret nm R X F h k n (pc) L (.int y :: .int x :: st) := by
  intro p e s m args below meth c H locs ls Cc hR hS hL
  obtain ⟨hx, hb, hml, hrt, hlk, hown, hnm, hts, hK, hN, hX⟩ := id Cc
  exact lv_icmp_lt hx hb hd ht (fun q => kt q p e s m args below meth c H locs ls Cc hR hS hL) (fun q => kf q p e s m args below meth c H locs ls Cc hR hS hL)
theorem R_if_ge {x : Int32} {off : Int} (tgt : Nat) (hd : decode cc pc = .ok (.ifCond .ge off, 3)) (ht : (pc : Int) + off = (tgt : Int)) (kt : 0 ≤ x → Run l D cA N0 own cc nL ret nm R X F h k n (tgt) L (st)) (kf : ¬ 0 ≤ x → Run l D cA N0 own cc nL ret nm R X F h k n (pc + 3) L (st)) : Run l D cA N0 own cc nL ret nm R X F h k n (pc) L (.int x :: st) := by
  intro p e s m args below meth c H locs ls Cc hR hS hL
  obtain ⟨hx, hb, hml, hrt, hlk, hown, hnm, hts, hK, hN, hX⟩ := id Cc
  exact lv_if_ge hx hb hd ht (fun q => kt q p e s m args below meth c H locs ls Cc hR hS hL) (fun q => kf q p e s m args below meth c H locs ls Cc hR hS hL)
theorem R_icmp_ge {x y : Int32} {off : Int} (tgt : Nat) (hd : decode cc pc = .ok (.if_icmp .ge off, 3)) (ht : (pc : Int) + off = (tgt : Int)) (kt : y ≤ x → Run l D cA N0 own cc nL ret nm R X F h k n (tgt) L (st)) (kf : ¬ y ≤ x → Run l D cA N0 own cc nL ret nm R X F h k n (pc + 3) L (st)) : Run l D cA N0 own cc nL ret nm R X F h k n (pc) L (.int y :: .int x :: st) := by
  intro p e s m args below meth c H locs ls Cc hR hS hL
  obtain ⟨hx, hb, hml, hrt, hlk, hown, hnm, hts, hK, hN, hX⟩ := id Cc
  exact lv_icmp_ge hx hb hd ht (fun q => kt q p e s m args below meth c H locs ls Cc hR hS hL) (fun q => kf q p e s m args below meth c H locs ls Cc hR hS hL)
theorem R_if_gt {x : Int32} {off : Int} (tgt : Nat) (hd : decode cc pc = .ok (.ifCond .gt off, 3)) (ht : (pc : Int) + off = (tgt : Int)) (kt : 0 < x → Run l D cA N0 own cc nL ret nm R X F h k n (tgt) L (st)) (kf : ¬ 0 < x → Run l D cA N0 own cc nL ret nm R X F h k n (pc + 3) L (st)) : Run l D cA N0 own cc nL ret nm R X F h k n (pc) L (.int x :: st) := by
  intro p e s m args below meth c H locs ls Cc hR hS hL
  obtain ⟨hx, hb, hml, hrt, hlk, hown, hnm, hts, hK, hN, hX⟩ := id Cc
  exact lv_if_gt hx hb hd ht (fun q => kt q p e s m args below meth c H locs ls Cc hR hS hL) (fun q => kf q p e s m args below meth c H locs ls Cc hR hS hL)
theorem R_icmp_gt {x y : Int32} {off : Int} (tgt : Nat) (hd : decode cc pc = .ok (.if_icmp .gt off, 3)) (ht : (pc : Int) + off = (tgt : Int)) (kt : y < x → Run l D cA N0 own cc nL ret nm R X F h k n (tgt) L (st)) (kf : ¬ y < x → Run l D cA N0 own cc nL ret nm R X F h k n (pc + 3) L (st)) : Run l D cA N0 own cc nL ret nm R X F h k n (pc) L (.int y :: .int x :: st) := by
  intro p e s m args below meth c H locs ls Cc hR hS hL
  obtain ⟨hx, hb, hml, hrt, hlk, hown, hnm, hts, hK, hN, hX⟩ := id Cc
  exact lv_icmp_gt hx hb hd ht (fun q => kt q p e s m args below meth c H locs ls Cc hR hS hL) (fun q => kf q p e s m args below meth c H locs ls Cc hR hS hL)
theorem R_if_le {x : Int32} {off : Int} (tgt : Nat) (hd : decode cc pc = .ok (.ifCond .le off, 3)) (ht : (pc : Int) + off = (tgt : Int)) (kt : x ≤ 0 → Run l D cA N0 own cc nL ret nm R X F h k n (tgt) L (st)) (kf : ¬ x ≤ 0 → Run l D cA N0 own cc nL ret nm R X F h k n (pc + 3) L (st)) : Run l D cA N0 own cc nL ret nm R X F h k n (pc) L (.int x :: st) := by
  intro p e s m args below meth c H locs ls Cc hR hS hL
  obtain ⟨hx, hb, hml, hrt, hlk, hown, hnm, hts, hK, hN, hX⟩ := id Cc
  exact lv_if_le hx hb hd ht (fun q => kt q p e s m args below meth c H locs ls Cc hR hS hL) (fun q => kf q p e s m args below meth c H locs ls Cc hR hS hL)
theorem R_icmp_le {x y : Int32} {off : Int} (tgt : Nat) (hd : decode cc pc = .ok (.if_icmp .le off, 3)) (ht : (pc : Int) + off = (tgt : Int)) (kt : x ≤ y → Run l D cA N0 own cc nL ret nm R X F h k n (tgt) L (st)) (kf : ¬ x ≤ y → Run l D cA N0 own cc nL ret nm R X F h k n (pc + 3) L (st)) : Run l D cA N0 own cc nL ret nm R X F h k n (pc) L (.int y :: .int x :: st) := by
  intro p e s m args below meth c H locs ls Cc hR hS hL
  obtain ⟨hx, hb, hml, hrt, hlk, hown, hnm, hts, hK, hN, hX⟩ := id Cc
  exact lv_icmp_le hx hb hd ht (fun q => kt q p e s m args below meth c H locs ls Cc hR hS hL) (fun q => kf q p e s m args below meth c H locs ls Cc hR hS hL)
theorem R_ifnull {x : Nat} {off : Int} (hd : decode cc pc = .ok (.ifnull off, 3)) (kk : Run l D cA N0 own cc nL ret nm R X F h k n (pc + 3) L (st)) : Run l D cA N0 own cc nL ret nm R X F h k n (pc) L (.ref x :: st) := by
  intro p e s m args below meth c H locs ls Cc hR hS hL
  obtain ⟨hx, hb, hml, hrt, hlk, hown, hnm, hts, hK, hN, hX⟩ := id Cc
  exact lv_ifnull hx hb hd (kk p e s m args below meth c H locs ls Cc hR hS hL)
theorem R_ifnonnull {x : Nat} {off : Int} (tgt : Nat) (hd : decode cc pc = .ok (.ifnonnull off, 3)) (ht : (pc : Int) + off = (tgt : Int)) (kk : Run l D cA N0 own cc nL ret nm R X F h k n (tgt) L (st)) : Run l D cA N0 own cc nL ret nm R X F h k n (pc) L (.ref x :: st) := by
  intro p e s m args below meth c H locs ls Cc hR hS hL
  obtain ⟨hx, hb, hml, hrt, hlk, hown, hnm, hts, hK, hN, hX⟩ := id Cc
  exact lv_ifnonnull hx hb hd ht (kk p e s m args below meth c H locs ls Cc hR hS hL)
theorem R_ifnullN {off : Int} (tgt : Nat) (hd : decode cc pc = .ok (.ifnull off, 3)) (ht : (pc : Int) + off = (tgt : Int)) (kk : Run l D cA N0 own cc nL ret nm R X F h k n (tgt) L (st)) : Run l D cA N0 own cc nL ret nm R X F h k n (pc) L (.null :: st) := by
  intro p e s m args below meth c H locs ls Cc hR hS hL
  obtain ⟨hx, hb, hml, hrt, hlk, hown, hnm, hts, hK, hN, hX⟩ := id Cc
  exact lv_ifnullN hx hb hd ht (kk p e s m args below meth c H locs ls Cc hR hS hL)
theorem R_ifnonnullN {off : Int} (hd : decode cc pc = .ok (.ifnonnull off, 3)) (kk : Run l D cA N0 own cc nL ret nm R X F h k n (pc + 3) L (st)) : Run l D cA N0 own cc nL ret nm R X F h k n (pc) L (.null :: st) := by
  intro p e s m args below meth c H locs ls Cc hR hS hL
  obtain ⟨hx, hb, hml, hrt, hlk, hown, hnm, hts, hK, hN, hX⟩ := id Cc
  exact lv_ifnonnullN hx hb hd (kk p e s m args below meth c H locs ls Cc hR hS hL)
theorem R_tableOut {dflt lo hi : Int} {offs : Array Int} {len : Nat} {x : Int32} (tgt : Nat) (hd : decode cc pc = .ok (.tableswitch dflt lo hi offs, len)) (hq : x.toInt < lo ∨ hi < x.toInt) (ht : (pc : Int) + dflt = (tgt : Int)) (kk : Run l D cA N0 own cc nL ret nm R X F h k n (tgt) L (st)) : Run l D cA N0 own cc nL ret nm R X F h k n (pc) L (.int x :: st) := by
  intro p e s m args below meth c H locs ls Cc hR hS hL
  obtain ⟨hx, hb, hml, hrt, hlk, hown, hnm, hts, hK, hN, hX⟩ := id Cc
  exact lv_tableOut hx hb hd hq ht (kk p e s m args below meth c H locs ls Cc hR hS hL)
theorem R_tableIn {dflt lo hi : Int} {offs : Array Int} {len : Nat} {x : Int32} {off : Int} (tgt : Nat) (hd : decode cc pc = .ok (.tableswitch dflt lo hi offs, len)) (h1 : ¬ x.toInt < lo) (h2 : ¬ hi < x.toInt) (ho : offs[(x.toInt - lo).toNat]? = some off) (ht : (pc : Int) + off = (tgt : Int)) (kk : Run l D cA N0 own cc nL ret nm R X F h k n (tgt) L (st)) : Run l D cA N0 own cc nL ret nm R X F h k n (pc) L (.int x :: st) := by
  intro p e s m args below meth c H locs ls Cc hR hS hL
  obtain ⟨hx, hb, hml, hrt, hlk, hown, hnm, hts, hK, hN, hX⟩ := id Cc
  exact lv_tableIn hx hb hd h1 h2 ho ht (kk p e s m args below meth c H locs ls Cc hR hS hL)
theorem R_widen {k2 n2 : Nat} (h1 : k ≤ k2) (h2 : n ≤ n2) (kk : Run l D cA N0 own cc nL ret nm R X F h k2 n2 (pc) L (st)) : Run l D cA N0 own cc nL ret nm R X F h k n (pc) L (st) := by
  intro p e s m args below meth c H locs ls Cc hR hS hL
  obtain ⟨hx, hb, hml, hrt, hlk, hown, hnm, hts, hK, hN, hX⟩ := id Cc
  exact W.widen h1 h2 (kk p e s m args below meth c H locs ls Cc hR hS hL)
theorem Rh.one {D : va_G} {cA : Nat → ClassId} {N0 : Nat} {h : AH} {H : Heap} (hR : Rh D cA N0 h H) {a : Nat} {e0 : AE} (ha : h.2 a = some e0) : va_P D vwCl [(a, toE cA e0)] H := fun q0 q hq => by
  have hz : q0 < 1 := (List.getElem?_eq_some_iff.mp hq).1
  rw [show q0 = 0 by omega] at hq
  cases hq
  exact (hR.2 a e0 ha).2
theorem R_get {a ci i idx N : Nat} {T : u_T} {C : String} {fs : List Value} {v : Value} (hd : decode cc pc = .ok (.getfield idx, 3)) (hw : Cond.fieldLink own idx (T i).1 (T i).2.1 (T i).2.2.1 ∈ WSa) (hc : vwCl[ci]? = some (C, T, N)) (hin : ∀ w ∈ u_ws C T N, w ∈ WSa) (hi : i < N) (ha : h.2 a = some (.inr (ci, fs))) (hv : fs[i]? = some v) (kk : Run l D cA N0 own cc nL ret nm R X F h k n (pc + 3) L (v :: st)) : Run l D cA N0 own cc nL ret nm R X F h k n (pc) L (.ref a :: st) := by
  intro p e s m args below meth c H locs ls Cc hR hS hL
  obtain ⟨hx, hb, hml, hrt, hlk, hown, hnm, hts, hK, hN, hX⟩ := id Cc
  exact va_get hx hb hts hin hown hK.1 (hR.one ha) 0 rfl hc i hi (hts _ hw) (fun _ q => q) hv hd (kk p e s m args below meth c H locs ls Cc hR hS hL)
theorem R_put {a ci i idx N : Nat} {T : u_T} {C : String} {fs : List Value} {v : Value} {ty : Nat → FieldType} (hd : decode cc pc = .ok (.putfield idx, 3)) (hw : Cond.fieldLink own idx (T i).1 (T i).2.1 (T i).2.2.1 ∈ WSa) (hc : vwCl[ci]? = some (C, T, N)) (hin : ∀ w ∈ u_ws C T N, w ∈ WSa) (hty : ∀ j, j < N → parseFieldDescriptor (T j).2.2.1 = some (ty j)) (hap : ∀ a, a < N → ∀ b, b < N → a ≠ b → (T a).2.1 ≠ (T b).2.1) (hi : i < N) (hfin : (T i).2.2.2 = false) (hnar : narrow (ty i) v = v) (hfit : fits (ty i) v = true) (ha : h.2 a = some (.inr (ci, fs))) (hl : i < fs.length) (kk : Run l D cA N0 own cc nL ret nm R X F (hput h a (.inr (ci, fs.set i v))) k n (pc + 3) L (st)) : Run l D cA N0 own cc nL ret nm R X F h k n (pc) L (v :: .ref a :: st) := by
  intro p e s m args below meth c H locs ls Cc hR hS hL
  obtain ⟨hx, hb, hml, hrt, hlk, hown, hnm, hts, hK, hN, hX⟩ := id Cc
  have hap2 := va_apart (own := own) hts hin ty hty hap hK.1 hc
  obtain ⟨hNa, r, h1, cell, q1, q2, q3, q4⟩ := hR.2 a _ ha
  have hr : r = (C, T, N) := Option.some.inj (h1.symm.trans hc)
  subst hr
  obtain ⟨hSi, hfc, kC, hkC, hkind⟩ := hK.1.1 ci _ hc
  obtain ⟨cf, kf, fi, f, hif, hsl⟩ := hSi i hi
  have hty2 := hty i hi
  have hlay := hts _ (hin _ (u_in_lay hi))
  unfold u_lay at hlay
  rw [if_neg (by rw [hfin]; decide)] at hlay
  refine W.putK hx hb (f := f) ⟨hown, hts _ hw, ⟨_, _, _, hif⟩, (u_facts hfc hkC (u_lays hts hin hi) hif).1⟩ (by rw [q2]; exact u_store hfc hkC hkind hlay hif hty2 hnar hfit) q1 q3 (by rw [hsl]; exact k2_hasslot (q4 i hi)) rfl rfl hd fun H' e1 e2 e3 => ?_
  rw [hsl] at e1 ⊢
  exact kk p e s m args below meth c H' _ ls Cc (hR.put hNa ⟨_, hc, t_OB.to (V := updV (vp_V fs) i v) ⟨_, e1, q2, q3, t_set q4 hap2 hi v⟩ (fun j _ => vp_updV_set hl v j)⟩ e2 e3) (hS.put e2 e3 hNa) hL
theorem R_putF {a ci i idx N : Nat} {T : u_T} {C : String} {fs : List Value} {v : Value} {ty : Nat → FieldType} (hd : decode cc pc = .ok (.putfield idx, 3)) (hw : Cond.fieldLink own idx (T i).1 (T i).2.1 (T i).2.2.1 ∈ WSa) (hc : vwCl[ci]? = some (C, T, N)) (hin : ∀ w ∈ u_ws C T N, w ∈ WSa) (hty : ∀ j, j < N → parseFieldDescriptor (T j).2.2.1 = some (ty j)) (hap : ∀ a, a < N → ∀ b, b < N → a ≠ b → (T a).2.1 ≠ (T b).2.1) (hi : i < N) (hfin : (T i).2.2.2 = true) (hnm0 : nm = "<init>") (hdecl : (T i).1 = own) (hnar : narrow (ty i) v = v) (hfit : fits (ty i) v = true) (ha : h.2 a = some (.inr (ci, fs))) (hl : i < fs.length) (kk : Run l D cA N0 own cc nL ret nm R X F (hput h a (.inr (ci, fs.set i v))) k n (pc + 3) L (st)) : Run l D cA N0 own cc nL ret nm R X F h k n (pc) L (v :: .ref a :: st) := by
  intro p e s m args below meth c H locs ls Cc hR hS hL
  obtain ⟨hx, hb, hml, hrt, hlk, hown, hnm, hts, hK, hN, hX⟩ := id Cc
  have hap2 := va_apart (own := own) hts hin ty hty hap hK.1 hc
  obtain ⟨hNa, r, h1, cell, q1, q2, q3, q4⟩ := hR.2 a _ ha
  have hr : r = (C, T, N) := Option.some.inj (h1.symm.trans hc)
  subst hr
  obtain ⟨hSi, hfc, kC, hkC, hkind⟩ := hK.1.1 ci _ hc
  obtain ⟨cf, kf, fi, f, hif, hsl⟩ := hSi i hi
  have hty2 := hty i hi
  have hlay := hts _ (hin _ (u_in_lay hi))
  unfold u_lay at hlay
  rw [if_pos hfin] at hlay
  have hcf : m.cls = cf := by
    obtain ⟨_, _, c', _, _, _, -, -, hf', -, -, -, hown2, -⟩ := Cond.laysFinal_spec hlay
    have e1 : c' = cf := by have := hif.symm.trans hf'; simp at this; exact this.1.symm
    rw [hdecl] at hown2
    rw [← e1]; exact Option.some.inj (hown.symm.trans hown2)
  refine W.putFinK hx hb hown (hts _ hw) hif (u_facts hfc hkC (u_lays hts hin hi) hif).1 hcf (hnm.trans hnm0) (by rw [q2]; exact u_fits hfc hkC hkind (Or.inr hlay) hif hty2 hnar hfit) q1 q3 (by rw [hsl]; exact k2_hasslot (q4 i hi)) rfl rfl hd fun H' e1 e2 e3 => ?_
  rw [hsl] at e1 ⊢
  exact kk p e s m args below meth c H' _ ls Cc (hR.put hNa ⟨_, hc, t_OB.to (V := updV (vp_V fs) i v) ⟨_, e1, q2, q3, t_set q4 hap2 hi v⟩ (fun j _ => vp_updV_set hl v j)⟩ e2 e3) (hS.put e2 e3 hNa) hL
theorem R_alen {a t : Nat} {x : vp_A} {v : Int32} (hd : decode cc pc = .ok (.arraylength, 1)) (ha : h.2 a = some (.inl (t, x))) (ht : t < 4) (hv : Int32.ofNat x.1 = v) (kk : Run l D cA N0 own cc nL ret nm R X F h k n (pc + 1) L (.int v :: st)) : Run l D cA N0 own cc nL ret nm R X F h k n (pc) L (.ref a :: st) := by
  intro p e s m args below meth c H locs ls Cc hR hS hL
  obtain ⟨hx, hb, hml, hrt, hlk, hown, hnm, hts, hK, hN, hX⟩ := id Cc
  have h4 : ∃ ty, (atys cA)[t]? = some (cA t, ty) := by
    rcases (by omega : t = 0 ∨ t = 1 ∨ t = 2 ∨ t = 3) with q | q | q | q <;> subst q <;> exact ⟨_, rfl⟩
  obtain ⟨ty, h4⟩ := h4
  exact va_alen hx hb hK.1 (hR.one ha) 0 t rfl h4 hv hd (kk p e s m args below meth c H locs ls Cc hR hS hL)
theorem R_iald {a N : Nat} {f : Nat → Int32} {j : Int32} (hd : decode cc pc = .ok (.iaload, 1)) (ha : h.2 a = some (.inl (0, N, .inl f))) (hj : vp_in j N) (kk : Run l D cA N0 own cc nL ret nm R X F h k n (pc + 1) L (.int (f j.toNatClampNeg) :: st)) : Run l D cA N0 own cc nL ret nm R X F h k n (pc) L (.int j :: .ref a :: st) := by
  intro p e s m args below meth c H locs ls Cc hR hS hL
  obtain ⟨hx, hb, hml, hrt, hlk, hown, hnm, hts, hK, hN, hX⟩ := id Cc
  exact va_iald hx hb hK.1 (hR.one ha) 0 0 rfl rfl hj hd (kk p e s m args below meth c H locs ls Cc hR hS hL)
theorem R_aast2 {a N v : Nat} {f : Nat → Option Nat} {fs : List Value} {j : Int32} (hd : decode cc pc = .ok (.aastore, 1)) (ha : h.2 a = some (.inl (2, N, .inr (.inr (.inr (.inr f)))))) (hj : vp_in j N) (hv : h.2 v = some (.inr (5, fs))) (kk : Run l D cA N0 own cc nL ret nm R X F (hput h a (.inl (2, N, .inr (.inr (.inr (.inr (va_up f j.toNatClampNeg (some v)))))))) k n (pc + 1) L (st)) : Run l D cA N0 own cc nL ret nm R X F h k n (pc) L (.ref v :: .int j :: .ref a :: st) := by
  intro p e s m args below meth c H locs ls Cc hR hS hL
  obtain ⟨hx, hb, hml, hrt, hlk, hown, hnm, hts, hK, hN, hX⟩ := id Cc
  have hNa := (hR.2 a _ ha).1
  have hlt : j.toNatClampNeg < N := Nat.not_le.mp fun q => hj (Or.inr q)
  have h0 : ¬ j < 0 := fun q => hj (Or.inl q)
  obtain ⟨-, r', hr', cellV, g1, g2, g3, -⟩ := hR.2 v _ hv
  have hcls := (hK.1.1 5 _ rfl).2
  obtain ⟨kA, comp, k1, k2, k3, -⟩ := (hK.1.2 2 _ rfl).2
  have hcomp : comp = D.1 5 := Option.some.inj (k3.symm.trans hcls.1)
  subst hcomp
  obtain ⟨kC, hkC, -⟩ := hcls.2
  refine W.aast hx hb (hR.2 a _ ha).2 (fun q h => by cases h) (fun h => by cases h) k1 k2 rfl hkC ⟨h0, by show _ < (arrV _ _ _).slots.size; rw [arrV_size]; exact hlt⟩ g1 (fun q h => by rw [g3] at h; cases h) (by rw [g2]; exact hkC) (by rw [g2]; exact va_assign hcls) rfl rfl hd fun H1 e1 z oq => ?_
  refine kk p e s m args below meth c H1 _ ls Cc (hR.put hNa ?_ z oq) (hS.put z oq hNa) hL
  show H1[a]? = some (vp_cell _ _)
  rw [e1]
  show some ((vp_cell _ (N, .inr (.inr (.inr (.inr f))))).setSlot _ _) = _
  rw [vp_cell_q, vp_cell_q, arrV_store]
  congr 2
  funext q
  by_cases hq : q = j.toNatClampNeg
  · subst hq
    simp [updV, va_up, va_rf]
  · simp [updV, va_up, hq]
theorem R_aast3 {a N v : Nat} {f : Nat → Option Nat} {fs : List Value} {j : Int32} (hd : decode cc pc = .ok (.aastore, 1)) (ha : h.2 a = some (.inl (3, N, .inr (.inr (.inr (.inr f)))))) (hj : vp_in j N) (hv : h.2 v = some (.inr (6, fs))) (kk : Run l D cA N0 own cc nL ret nm R X F (hput h a (.inl (3, N, .inr (.inr (.inr (.inr (va_up f j.toNatClampNeg (some v)))))))) k n (pc + 1) L (st)) : Run l D cA N0 own cc nL ret nm R X F h k n (pc) L (.ref v :: .int j :: .ref a :: st) := by
  intro p e s m args below meth c H locs ls Cc hR hS hL
  obtain ⟨hx, hb, hml, hrt, hlk, hown, hnm, hts, hK, hN, hX⟩ := id Cc
  have hNa := (hR.2 a _ ha).1
  have hlt : j.toNatClampNeg < N := Nat.not_le.mp fun q => hj (Or.inr q)
  have h0 : ¬ j < 0 := fun q => hj (Or.inl q)
  obtain ⟨-, r', hr', cellV, g1, g2, g3, -⟩ := hR.2 v _ hv
  have hcls := (hK.1.1 6 _ rfl).2
  obtain ⟨kA, comp, k1, k2, k3, -⟩ := (hK.1.2 3 _ rfl).2
  have hcomp : comp = D.1 6 := Option.some.inj (k3.symm.trans hcls.1)
  subst hcomp
  obtain ⟨kC, hkC, -⟩ := hcls.2
  refine W.aast hx hb (hR.2 a _ ha).2 (fun q h => by cases h) (fun h => by cases h) k1 k2 rfl hkC ⟨h0, by show _ < (arrV _ _ _).slots.size; rw [arrV_size]; exact hlt⟩ g1 (fun q h => by rw [g3] at h; cases h) (by rw [g2]; exact hkC) (by rw [g2]; exact va_assign hcls) rfl rfl hd fun H1 e1 z oq => ?_
  refine kk p e s m args below meth c H1 _ ls Cc (hR.put hNa ?_ z oq) (hS.put z oq hNa) hL
  show H1[a]? = some (vp_cell _ _)
  rw [e1]
  show some ((vp_cell _ (N, .inr (.inr (.inr (.inr f))))).setSlot _ _) = _
  rw [vp_cell_q, vp_cell_q, arrV_store]
  congr 2
  funext q
  by_cases hq : q = j.toNatClampNeg
  · subst hq
    simp [updV, va_up, va_rf]
  · simp [updV, va_up, hq]
theorem vsp {N0 : Nat} {H0 H H1 : Heap} {locs : List Loc} (hS : va_S (fun q => N0 ≤ q) H0 H locs) (z : H1.size = H.size + 1) (o1 : ∀ q : Nat, q < H.size → H1[q]? = H[q]?) : va_S (fun q => N0 ≤ q) H0 H1 locs :=
  ⟨Nat.le_trans hS.1 (by omega), fun x h1 h2 => (o1 x (Nat.lt_of_lt_of_le h1 hS.1)).trans (hS.2.1 x h1 h2), hS.2.2⟩
theorem R_new {C : String} {T : u_T} {N ci idx : Nat} {fs : List Value} {ty : Nat → FieldType} (hd : decode cc pc = .ok (.new idx, 3)) (hw1 : Cond.classLink own idx C ∈ WSa) (hw2 : Cond.instantiable C N ∈ WSa) (hw3 : Cond.initialized C ∈ WSa) (hc : vwCl[ci]? = some (C, T, N)) (hin : ∀ w ∈ u_ws C T N, w ∈ WSa) (hty : ∀ j, j < N → parseFieldDescriptor (T j).2.2.1 = some (ty j)) (hfs : ∀ j, j < N → defaultValue (ty j) = vp_V fs j) (hcells : k + 1 ≤ R.cells) (hslots : n + N ≤ R.slots) (kk : Run l D cA N0 own cc nL ret nm R X F (hnew h (.inr (ci, fs))) (k + 1) (n + N) (pc + 3) L (.ref h.1 :: st)) : Run l D cA N0 own cc nL ret nm R X F h k n (pc) L (st) := by
  intro p e s m args below meth c H locs ls Cc hR hS hL
  obtain ⟨hx, hb, hml, hrt, hlk, hown, hnm, hts, hK, hN, hX⟩ := id Cc
  have hKn := hK.1.1 ci _ hc
  refine W.newcK hx hb hown (hts _ hw1) (hts _ hw2) (hts _ hw3) rfl hd hcells hslots hKn.2.1 rfl fun H1 kC hkC e1 z1 o1 => ?_
  have hz : H.size = h.1 := hR.1
  have hq := kk p e s m args below meth c H1 locs ls Cc (hR.new (Nat.le_trans hN hS.1) ⟨_, hc, (u_born ty hts hin hKn hkC e1 hty).to hfs⟩ z1 o1) (vsp hS z1 o1) hL
  rw [← hz] at hq
  exact hq
theorem R_newi {x : Int32} {N : Nat} (hd : decode cc pc = .ok (.newarray .int, 2)) (hw : Cond.arrayClass .int ∈ WSa) (hn : ¬ x < 0) (hNx : x.toNatClampNeg = N) (hby : N * componentBytes .int ≤ 536870912) (hcells : k + 1 ≤ R.cells) (hslots : n + N ≤ R.slots) (kk : Run l D cA N0 own cc nL ret nm R X F (hnew h (.inl (0, N, .inl (fun _ => 0)))) (k + 1) (n + N) (pc + 2) L (.ref h.1 :: st)) : Run l D cA N0 own cc nL ret nm R X F h k n (pc) L (.int x :: st) := by
  intro p e s m args below meth c H locs ls Cc hR hS hL
  obtain ⟨hx, hb, hml, hrt, hlk, hown, hnm, hts, hK, hN, hX⟩ := id Cc
  refine va_newaK (atype := .int) hx hb (hts _ hw) rfl hd rfl hn hNx hby hcells hslots rfl fun H1 cA1 e1 z1 o1 hAr hNm => ?_
  have hz : H.size = h.1 := hR.1
  have hRA := (hK.1.2 0 _ rfl).2
  have hcA : cA1 = cA 0 := Option.some.inj (hNm.symm.trans hRA)
  subst hcA
  have hq := kk p e s m args below meth c H1 locs ls Cc (hR.new (Nat.le_trans hN hS.1) (by show H1[H.size]? = some (vp_cell _ _); rw [e1]; rfl) z1 o1) (vsp hS z1 o1) hL
  rw [← hz] at hq
  exact hq
theorem R_newq2 {x : Int32} {N idx : Nat} (hd : decode cc pc = .ok (.anewarray idx, 3)) (hw : Cond.classLink own idx RX7 ∈ WSa) (hn : ¬ x < 0) (hNx : x.toNatClampNeg = N) (hby : N * 4 ≤ 536870912) (hcells : k + 1 ≤ R.cells) (hslots : n + N ≤ R.slots) (kk : Run l D cA N0 own cc nL ret nm R X F (hnew h (.inl (2, N, .inr (.inr (.inr (.inr (fun _ => none))))))) (k + 1) (n + N) (pc + 3) L (.ref h.1 :: st)) : Run l D cA N0 own cc nL ret nm R X F h k n (pc) L (.int x :: st) := by
  intro p e s m args below meth c H locs ls Cc hR hS hL
  obtain ⟨hx, hb, hml, hrt, hlk, hown, hnm, hts, hK, hN, hX⟩ := id Cc
  subst hNx
  refine W.anew hx hb hown (hts _ hw) (va_AO.use hK.2.2.2.2.2.2.1) rfl hd rfl hn hby hcells hslots fun cA1 kA comp f1 f2 f3 f4 => ?_
  generalize hH1 : H.push ({ cls := cA1, slots := Array.replicate x.toNatClampNeg .null, vm := .none } : Cell) = H1
  have z1 : H1.size = H.size + 1 := by rw [← hH1, Array.size_push]
  have e1 : H1[H.size]? = some (arrV cA1 x.toNatClampNeg (fun _ => .null)) := by rw [← hH1, Array.getElem?_push_size, ← arrV_new]
  have o1 : ∀ q : Nat, q < H.size → H1[q]? = H[q]? := fun q hq => by rw [← hH1, Array.getElem?_push, if_neg (Nat.ne_of_lt hq)]
  have hz : H.size = h.1 := hR.1
  obtain ⟨kA2, comp2, g1, g2, g3, g4⟩ := (hK.1.2 2 _ rfl).2
  have hcA : cA1 = cA 2 := Option.some.inj (f1.symm.trans g4)
  subst hcA
  have hq := kk p e s m args below meth c H1 locs ls Cc (hR.new (Nat.le_trans hN hS.1) (by show H1[H.size]? = some (vp_cell _ _); rw [e1]; rfl) z1 o1) (vsp hS z1 o1) hL
  rw [← hz] at hq
  exact hq
theorem R_newq3 {x : Int32} {N idx : Nat} (hd : decode cc pc = .ok (.anewarray idx, 3)) (hw : Cond.classLink own idx RX8 ∈ WSa) (hn : ¬ x < 0) (hNx : x.toNatClampNeg = N) (hby : N * 4 ≤ 536870912) (hcells : k + 1 ≤ R.cells) (hslots : n + N ≤ R.slots) (kk : Run l D cA N0 own cc nL ret nm R X F (hnew h (.inl (3, N, .inr (.inr (.inr (.inr (fun _ => none))))))) (k + 1) (n + N) (pc + 3) L (.ref h.1 :: st)) : Run l D cA N0 own cc nL ret nm R X F h k n (pc) L (.int x :: st) := by
  intro p e s m args below meth c H locs ls Cc hR hS hL
  obtain ⟨hx, hb, hml, hrt, hlk, hown, hnm, hts, hK, hN, hX⟩ := id Cc
  subst hNx
  refine W.anew hx hb hown (hts _ hw) (va_AO.use hK.2.2.2.2.2.2.2) rfl hd rfl hn hby hcells hslots fun cA1 kA comp f1 f2 f3 f4 => ?_
  generalize hH1 : H.push ({ cls := cA1, slots := Array.replicate x.toNatClampNeg .null, vm := .none } : Cell) = H1
  have z1 : H1.size = H.size + 1 := by rw [← hH1, Array.size_push]
  have e1 : H1[H.size]? = some (arrV cA1 x.toNatClampNeg (fun _ => .null)) := by rw [← hH1, Array.getElem?_push_size, ← arrV_new]
  have o1 : ∀ q : Nat, q < H.size → H1[q]? = H[q]? := fun q hq => by rw [← hH1, Array.getElem?_push, if_neg (Nat.ne_of_lt hq)]
  have hz : H.size = h.1 := hR.1
  obtain ⟨kA2, comp2, g1, g2, g3, g4⟩ := (hK.1.2 3 _ rfl).2
  have hcA : cA1 = cA 3 := Option.some.inj (f1.symm.trans g4)
  subst hcA
  have hq := kk p e s m args below meth c H1 locs ls Cc (hR.new (Nat.le_trans hN hS.1) (by show H1[H.size]? = some (vp_cell _ _); rw [e1]; rfl) z1 o1) (vsp hS z1 o1) hL
  rw [← hz] at hq
  exact hq
theorem R_objInit {a idx : Nat} (hd : decode cc pc = .ok (.invokespecial idx, 3)) (hw : Cond.methodLink own idx objectInit ∈ WSa) (hi : Cond.instanceMethod objectInit ∈ WSa) (hcd : Cond.code objectInit ⟨#[0xb1]⟩ 1 none ∈ WSa) (hn : L.length = nL) (hf : 1 ≤ R.frames) (hlo : (st.map fun v => v.category).sum + 12 ≤ R.locals) (kk : Run l D cA N0 own cc nL ret nm R X F h k n (pc + 3) L (st)) : Run l D cA N0 own cc nL ret nm R X F h k n (pc) L (.ref a :: st) := by
  intro p e s m args below meth c H locs ls Cc hR hS hL
  obtain ⟨hx, hb, hml, hrt, hlk, hown, hnm, hts, hK, hN, hX⟩ := id Cc
  exact W.objInit hx hb hown (hts _ hw) (hts _ hi) (hts _ hcd) rfl (by rw [hml]; exact hL.1) rfl hd hf (by show 2 * 0 + _ + 12 ≤ _; omega) (kk p e s m args below meth c H locs ls Cc hR hS hL)
theorem R_copy {a0 a1 n0 n1 idx : Nat} {f g : Nat → Int32} {sp dp z : Int32} (hd : decode cc pc = .ok (.invokestatic idx, 3)) (hw1 : Cond.methodLink own idx arraycopyName ∈ WSa) (hw2 : Cond.native arraycopyName ∈ WSa) (hw3 : Cond.static arraycopyName ∈ WSa) (hw4 : Cond.initialized "java/lang/System" ∈ WSa) (h0 : h.2 a0 = some (.inl (0, n0, .inl f))) (h1 : h.2 a1 = some (.inl (0, n1, .inl g))) (hne : a0 ≠ a1) (g1 : ¬ sp < 0) (g2 : ¬ dp < 0) (g3 : ¬ z < 0) (g4 : sp.toNatClampNeg + z.toNatClampNeg ≤ n0) (g5 : dp.toNatClampNeg + z.toNatClampNeg ≤ n1) (hf : 1 ≤ R.frames) (hlo : (st.map fun v => v.category).sum + (nativeFrameWords "java/lang/System" "arraycopy" 5 + 11) ≤ R.locals) (kk : Run l D cA N0 own cc nL ret nm R X F (hput h a1 (.inl (0, n1, .inl (va_cpy f g sp.toNatClampNeg dp.toNatClampNeg z.toNatClampNeg)))) k n (pc + 3) L (st)) : Run l D cA N0 own cc nL ret nm R X F h k n (pc) L (.int z :: .int dp :: .ref a1 :: .int sp :: .ref a0 :: st) := by
  intro p e s m args below meth c H locs ls Cc hR hS hL
  obtain ⟨hx, hb, hml, hrt, hlk, hown, hnm, hts, hK, hN, hX⟩ := id Cc
  have hNa := (hR.2 a1 _ h1).1
  have nn : ∀ z : Int32, ¬ z < 0 → z.toInt = (z.toNatClampNeg : Int) := by
    intro z hz
    have hz0 : (0 : Int) ≤ z.toInt := by
      have := Int32.not_lt.mp hz
      simpa using Int32.le_iff_toInt_le.mp this
    show z.toInt = ((z.toInt.toNat : Nat) : Int)
    omega
  intro T hT XX
  have hc0 : H[a0]? = some (vp_cell (cA 0) (n0, .inl f)) := (hR.2 a0 _ h0).2
  have hc1 : H[a1]? = some (vp_cell (cA 0) (n1, .inl g)) := (hR.2 a1 _ h1).2
  obtain ⟨-, k0, hk0, cm0, hkk0⟩ := (hK.1.2 0 _ rfl).1 n0 (fun j => .int (f j))
  obtain ⟨-, k1, hk1, cm1, hkk1⟩ := (hK.1.2 0 _ rfl).1 n1 (fun j => .int (g j))
  obtain ⟨vm', X', step⟩ := XX.arraycopy hx hown (hts _ hw1) (hts _ hw2) (hts _ hw3) (hts _ hw4) (src := a0) (dst := a1) (cs := vp_cell (cA 0) (n0, .inl f)) (cd := vp_cell (cA 0) (n1, .inl g)) (srcPos := sp) (destPos := dp) (n := z) (by rw [hT]; exact hc0) (by rw [hT]; exact hc1)
    (fun _ h => by cases h) (fun _ h => by cases h) (fun h => by cases h) (fun h => by cases h) hk0 hk1 hkk0 hkk1 (by simp [refKind]) g1 g2 g3
    (by rw [nn sp g1, nn z g3]; show ¬ _ > ((arrV (cA 0) n0 (fun j => .int (f j))).slots.size : Int); rw [arrV_size]; omega)
    (by rw [nn dp g2, nn z g3]; show ¬ _ > ((arrV (cA 0) n1 (fun j => .int (g j))).slots.size : Int); rw [arrV_size]; omega)
    (fun vm₁ _ i hi => by
      have e : (vp_cell (cA 0) (n0, .inl f)).slots.getD (sp.toNatClampNeg + i) .null = .int (f (sp.toNatClampNeg + i)) := by
        show (arrV (cA 0) n0 (fun j => .int (f j))).slots.getD _ _ = _
        rw [Array.getD_eq_getD_getElem?, arrV_read _ _ (by omega)]
        rfl
      refine ⟨?_, ?_⟩
      · rw [e]
        rfl
      · rw [e]
        exact trivial)
    (g := F0 m pc ls (.int z :: .int dp :: .ref a1 :: .int sp :: .ref a0 :: st)) rfl (by rw [hml]; exact hL.1) (rest := st) rfl (by rw [hb]; exact hd) hf (by show 2 * 0 + _ + _ ≤ _; omega)
  have e1 : copied (vp_cell (cA 0) (n0, .inl f)) (vp_cell (cA 0) (n1, .inl g)) sp dp z = vp_cell (cA 0) (n1, .inl (va_cpy f g sp.toNatClampNeg dp.toNatClampNeg z.toNatClampNeg)) := va_copied (fun z => .int z) (cA 0) (cA 0) f g g4
  rw [e1] at X' step
  have hl : a1 < H.size := (Array.getElem?_eq_some_iff.mp hc1).1
  have hheap : ((T.setVm vm').setCell a1 (vp_cell (cA 0) (n1, .inl (va_cpy f g sp.toNatClampNeg dp.toNatClampNeg z.toNatClampNeg)))).heap = H.setIfInBounds a1 (vp_cell (cA 0) (n1, .inl (va_cpy f g sp.toNatClampNeg dp.toNatClampNeg z.toNatClampNeg))) := by rw [← hT]; rfl
  have oq : ∀ q : Nat, q ≠ a1 → (H.setIfInBounds a1 (vp_cell (cA 0) (n1, .inl (va_cpy f g sp.toNatClampNeg dp.toNatClampNeg z.toNatClampNeg))))[q]? = H[q]? := fun q hq => by simp [Array.getElem?_setIfInBounds, Ne.symm hq]
  obtain ⟨t, b1, b2⟩ := kk p e s m args below meth c _ _ ls Cc (hR.put hNa (show (H.setIfInBounds a1 _)[a1]? = some _ by simp [Array.getElem?_setIfInBounds, hl]) (by simp) oq) ⟨by simp; exact hS.1, fun q q1 q2 => by
      rw [oq q (fun e => q2 (by rw [e]; exact hNa))]
      exact hS.2.1 q q1 q2, fun q hq => by
      rcases List.mem_append.mp hq with h | h
      · exact hS.2.2 q h
      · obtain ⟨y, -, hy⟩ := List.mem_map.mp h
        rw [← hy]
        exact hNa⟩ hL _ hheap X'
  exact ⟨t, step t b1, b2⟩
end RR
end
section
/-! CALLS AND RETURNS of the judgement Run -/
section RC
variable {l : Launch} {D : va_G} {cA : Nat → ClassId} {N0 : Nat} {own : String} {cc : ByteArray} {nL : Nat} {ret : Option FieldType} {nm : String} {R : Room} {X : State → Prop} {F : List Frame → Array Value → State → State → Prop} {h : AH} {k n pc : Nat} {L : List (Option Value)} {st : List Value}
/-- what the tables say of a method that is called -/
def Cal (M : MI) (np : Nat) : Prop := (M.1.cls ≠ "java/lang/invoke/MethodHandle" ∧ M.1.cls ≠ "java/lang/invoke/VarHandle" ∧ (parseMethodDescriptor M.1.desc).map (fun d => d.parameters.length) = some np) ∧ Cond.code M.1 M.2.1 M.2.2.1 M.2.2.2 ∈ WSa ∧ Cond.initialized M.1.cls ∈ WSa
theorem wsa_sub {w : Cond} (hw : w ∈ WSa) : GoodIn WSa (w :: WSa) := fun v hv => (List.mem_cons.mp hv).elim (fun e => by rw [e]; exact ⟨hw, good_of_word (List.mem_filter.mp hw).2⟩) (fun q => ⟨q, good_of_word (List.mem_filter.mp q).2⟩)
abbrev Rm (R : Room) (k n d mc ms mL : Nat) : Prop := (d + 1 ≤ R.frames ∧ 8 + (mL + 11) + 36 * d ≤ R.locals) ∧ k + mc ≤ R.cells ∧ n + ms ≤ R.slots
theorem pre_blind {D : va_G} {cA : Nat → ClassId} {N0 : Nat} {h : AH} {av : List Value} : FrameBlind (va_Pc av (fun U => Rh D cA N0 h U.heap ∧ KK D cA U ∧ N0 ≤ U.heap.size)) := fun a U g mk q => ⟨q.1, q.2.1, KK.same (s := U) (U := U.calling g mk a) rfl q.2.2.1, q.2.2.2⟩
/-- a call's run goes on in Run -/
theorem R_back {M : MI} {mc ms : Nat} {st0 rest av : List Value} {post : Option Value → AH → Prop}
    (kk : ∀ (r : Option Value) (h' : AH), post r h' → Run l D cA N0 own cc nL ret nm R X F h' (k + mc) (n + ms) (pc + 3) L (r.toList ++ rest))
    {p : Program} {e : Env} {s : State} {m : MethodId} {args : Array Value} {below : List Frame} {meth : Method} {c : Code} {H : Heap} {locs : List Loc} {ls : Array Slot} (C : Cx D cA N0 own cc nL ret nm X p s m args meth c) (hR : Rh D cA N0 h H) (hS : va_S (fun q => N0 ≤ q) s.heap H locs) (hL : LH ls nL L)
    (hr : va_Run p l e R s m args below meth c H locs k n mc ms (F0 m pc ls st0) rest (Qg D cA N0 post av.toArray) (fun q => N0 ≤ q)) : W p l e R s m args below meth c H locs k n (F below args s) (F0 m pc ls st0) := by
  intro T hT XX
  obtain ⟨v, st₀, t, T', Lc, h0, X', hLc, e1, e2, ⟨⟨r, h', hv, hp, hRh⟩, hz, hk⟩, stp⟩ := hr T hT XX
  cases hv
  rw [h0] at hz hk
  obtain ⟨t2, a1, b1⟩ := kk v h' hp p e s m args below meth c T'.heap (locs ++ Lc) ls C (by rw [e1]; exact hRh)
    ⟨Nat.le_trans hS.1 (by rw [e1]; exact hz), fun q h1 h2 => by rw [e1, hk q (Nat.lt_of_lt_of_le h1 hS.1) h2]; exact hS.2.1 q h1 h2, fun q hq => by
      rcases List.mem_append.mp hq with h | h
      · exact hS.2.2 q h
      · exact hLc q h⟩ hL T' rfl X'
  exact ⟨t2, stp t2 a1, b1⟩
theorem R_callVG {M : MI} {np idx ci N d mc ms : Nat} {a : Nat} {As fs : List Value} {T : u_T} {post : Option Value → AH → Prop} (hcal : Cal M np) (hlink : Cond.methodLink own idx M.1 ∈ WSa) (hins : Cond.instanceMethod M.1 ∈ WSa) (hsel : Cond.selects M.1.cls M.1 M.1 ∈ WSa) (hd : decode cc pc = .ok (.invokevirtual idx, 3)) (hsp : Spec l D cA N0 M d mc ms (.ref a :: As) h post) (hn : As.length = np) (hrm : Rm R k n d mc ms M.2.2.1) (hcat : (st.map fun v => v.category).sum ≤ 8) (hc : vwCl[ci]? = some (M.1.cls, T, N)) (ha : h.2 a = some (.inr (ci, fs)))
    (kk : ∀ (r : Option Value) (h' : AH), post r h' → Run l D cA N0 own cc nL ret nm R X F h' (k + mc) (n + ms) (pc + 3) L (r.toList ++ st)) : Run l D cA N0 own cc nL ret nm R X F h k n pc L (As.reverse ++ .ref a :: st) := by
  intro p e s m args below meth c H locs ls C hR hS hL
  obtain ⟨hx, hb, hml, hrt, hlk, hown, hnm, hts, hK, hN, hX⟩ := id C
  obtain ⟨hy, hcode, hini⟩ := hcal
  have hG := wsa_sub hcode
  refine R_back (M := M) kk C hR hS hL (va_runV (As := As) (rest := st) ⟨hx, hb, hml, hown, hts⟩ hsp ⟨callB_of np hts hG rfl rfl rfl (hts _ hini) (hts _ hlink) hy hrm.1, hts _ hins, hts _ hsel⟩ ⟨pre_blind, va_recv (q0 := 0) hK.1 (hR.one ha) hc rfl, fun U hU hW => ⟨rfl, by rw [hU]; exact hR, hK.warm hW, by rw [hU]; exact Nat.le_trans hN hS.1⟩⟩ rfl hn hL.1 rfl (lv_room hcat) hd hrm.2)
theorem R_callSG {M : MI} {np idx d mc ms : Nat} {As : List Value} {post : Option Value → AH → Prop} (hcal : Cal M np) (hlink : Cond.methodLink own idx M.1 ∈ WSa) (hst : Cond.static M.1 ∈ WSa) (hd : decode cc pc = .ok (.invokestatic idx, 3)) (hsp : Spec l D cA N0 M d mc ms As h post) (hn : As.length = np) (hrm : Rm R k n d mc ms M.2.2.1) (hcat : (st.map fun v => v.category).sum ≤ 8)
    (kk : ∀ (r : Option Value) (h' : AH), post r h' → Run l D cA N0 own cc nL ret nm R X F h' (k + mc) (n + ms) (pc + 3) L (r.toList ++ st)) : Run l D cA N0 own cc nL ret nm R X F h k n pc L (As.reverse ++ st) := by
  intro p e s m args below meth c H locs ls C hR hS hL
  obtain ⟨hx, hb, hml, hrt, hlk, hown, hnm, hts, hK, hN, hX⟩ := id C
  obtain ⟨hy, hcode, hini⟩ := hcal
  have hG := wsa_sub hcode
  refine R_back (M := M) kk C hR hS hL (va_runS (As := As) (rest := st) ⟨hx, hb, hml, hown, hts⟩ hsp ⟨callB_of np hts hG rfl rfl rfl (hts _ hini) (hts _ hlink) hy hrm.1, hts _ hst⟩ ⟨pre_blind, fun U hU hW => ⟨rfl, by rw [hU]; exact hR, hK.warm hW, by rw [hU]; exact Nat.le_trans hN hS.1⟩⟩ rfl hn hL.1 rfl (lv_room hcat) hd hrm.2)
theorem R_callIG {M : MI} {np idx d mc ms : Nat} {a : Nat} {As : List Value} {post : Option Value → AH → Prop} (hcal : Cal M np) (hlink : Cond.methodLink own idx M.1 ∈ WSa) (hins : Cond.instanceMethod M.1 ∈ WSa) (hret : M.2.2.2 = none) (hini1 : M.1.name = "<init>") (hd : decode cc pc = .ok (.invokespecial idx, 3)) (hsp : Spec l D cA N0 M d mc ms (.ref a :: As) h post) (hn : As.length = np) (hrm : Rm R k n d mc ms M.2.2.1) (hcat : (st.map fun v => v.category).sum ≤ 8)
    (kk : ∀ (r : Option Value) (h' : AH), post r h' → Run l D cA N0 own cc nL ret nm R X F h' (k + mc) (n + ms) (pc + 3) L (r.toList ++ st)) : Run l D cA N0 own cc nL ret nm R X F h k n pc L (As.reverse ++ .ref a :: st) := by
  intro p e s m args below meth c H locs ls C hR hS hL
  obtain ⟨hx, hb, hml, hrt, hlk, hown, hnm, hts, hK, hN, hX⟩ := id C
  obtain ⟨y, bytes, maxL, rt⟩ := M
  cases hret
  obtain ⟨hy, hcode, hini⟩ := hcal
  have hG := wsa_sub hcode
  refine R_back (M := (y, bytes, maxL, none)) kk C hR hS hL (va_runI (As := As) (rest := st) ⟨hx, hb, hml, hown, hts⟩ hsp ⟨callB_of np hts hG rfl rfl rfl (hts _ hini) (hts _ hlink) hy hrm.1, hini1, hts _ hins⟩ ⟨pre_blind, fun U hU hW => ⟨rfl, by rw [hU]; exact hR, hK.warm hW, by rw [hU]; exact Nat.le_trans hN hS.1⟩⟩ rfl hn hL.1 rfl (lv_room hcat) hd hrm.2)
theorem R_callNG {M : MI} {np idx d mc ms : Nat} {a : Nat} {host : String} {As : List Value} {post : Option Value → AH → Prop} (hcal : Cal M np) (hlink : ∀ U : State, Nst U → va_Nw (.methodLinkNest own idx M.1 host) U) (hins : Cond.instanceMethod M.1 ∈ WSa) (hret : M.2.2.2 = none) (hini1 : M.1.name = "<init>") (hd : decode cc pc = .ok (.invokespecial idx, 3)) (hsp : Spec l D cA N0 M d mc ms (.ref a :: As) h post) (hn : As.length = np) (hrm : Rm R k n d mc ms M.2.2.1) (hcat : (st.map fun v => v.category).sum ≤ 8)
    (kk : ∀ (r : Option Value) (h' : AH), post r h' → Run l D cA N0 own cc nL ret nm R X F h' (k + mc) (n + ms) (pc + 3) L (r.toList ++ st)) : Run l D cA N0 own cc nL ret nm R X F h k n pc L (As.reverse ++ .ref a :: st) := by
  intro p e s m args below meth c H locs ls C hR hS hL
  obtain ⟨hx, hb, hml, hrt, hlk, hown, hnm, hts, hK, hN, hX⟩ := id C
  obtain ⟨y, bytes, maxL, rt⟩ := M
  cases hret
  obtain ⟨hy, hcode, hini⟩ := hcal
  have hG := wsa_sub hcode
  refine R_back (M := (y, bytes, maxL, none)) kk C hR hS hL (va_runIN (host := host) (As := As) (rest := st) ⟨hx, hb, hml, hown, hts⟩ hsp ⟨va_cnB np hts hG rfl rfl rfl (hlink s hK.2) (hts _ hini) hy hrm.1, hini1, hts _ hins⟩ ⟨pre_blind, fun U hU hW => ⟨rfl, by rw [hU]; exact hR, hK.warm hW, by rw [hU]; exact Nat.le_trans hN hS.1⟩⟩ rfl hn hL.1 rfl (lv_room hcat) hd hrm.2)
theorem R_callV0 {M : MI} {idx ci N d mc ms : Nat} {a : Nat} {fs : List Value} {T : u_T} {post : Option Value → AH → Prop} (hcal : Cal M 0) (hlink : Cond.methodLink own idx M.1 ∈ WSa) (hins : Cond.instanceMethod M.1 ∈ WSa) (hsel : Cond.selects M.1.cls M.1 M.1 ∈ WSa) (hd : decode cc pc = .ok (.invokevirtual idx, 3)) (hsp : Spec l D cA N0 M d mc ms (.ref a :: []) h post) (hrm : Rm R k n d mc ms M.2.2.1) (hcat : (st.map fun v => v.category).sum ≤ 8) (hc : vwCl[ci]? = some (M.1.cls, T, N)) (ha : h.2 a = some (.inr (ci, fs)))
    (kk : ∀ (r : Option Value) (h' : AH), post r h' → Run l D cA N0 own cc nL ret nm R X F h' (k + mc) (n + ms) (pc + 3) L (r.toList ++ st)) : Run l D cA N0 own cc nL ret nm R X F h k n pc L (.ref a :: st) := R_callVG (As := []) hcal hlink hins hsel hd hsp rfl hrm hcat hc ha kk
theorem R_callS0 {M : MI} {idx d mc ms : Nat} {post : Option Value → AH → Prop} (hcal : Cal M 0) (hlink : Cond.methodLink own idx M.1 ∈ WSa) (hst : Cond.static M.1 ∈ WSa) (hd : decode cc pc = .ok (.invokestatic idx, 3)) (hsp : Spec l D cA N0 M d mc ms [] h post) (hrm : Rm R k n d mc ms M.2.2.1) (hcat : (st.map fun v => v.category).sum ≤ 8)
    (kk : ∀ (r : Option Value) (h' : AH), post r h' → Run l D cA N0 own cc nL ret nm R X F h' (k + mc) (n + ms) (pc + 3) L (r.toList ++ st)) : Run l D cA N0 own cc nL ret nm R X F h k n pc L (st) := R_callSG (As := []) hcal hlink hst hd hsp rfl hrm hcat kk
theorem R_callI0 {M : MI} {idx d mc ms : Nat} {a : Nat} {post : Option Value → AH → Prop} (hcal : Cal M 0) (hlink : Cond.methodLink own idx M.1 ∈ WSa) (hins : Cond.instanceMethod M.1 ∈ WSa) (hret : M.2.2.2 = none) (hini1 : M.1.name = "<init>") (hd : decode cc pc = .ok (.invokespecial idx, 3)) (hsp : Spec l D cA N0 M d mc ms (.ref a :: []) h post) (hrm : Rm R k n d mc ms M.2.2.1) (hcat : (st.map fun v => v.category).sum ≤ 8)
    (kk : ∀ (r : Option Value) (h' : AH), post r h' → Run l D cA N0 own cc nL ret nm R X F h' (k + mc) (n + ms) (pc + 3) L (r.toList ++ st)) : Run l D cA N0 own cc nL ret nm R X F h k n pc L (.ref a :: st) := R_callIG (As := []) hcal hlink hins hret hini1 hd hsp rfl hrm hcat kk
theorem R_callN0 {M : MI} {idx d mc ms : Nat} {a : Nat} {host : String} {post : Option Value → AH → Prop} (hcal : Cal M 0) (hlink : ∀ U : State, Nst U → va_Nw (.methodLinkNest own idx M.1 host) U) (hins : Cond.instanceMethod M.1 ∈ WSa) (hret : M.2.2.2 = none) (hini1 : M.1.name = "<init>") (hd : decode cc pc = .ok (.invokespecial idx, 3)) (hsp : Spec l D cA N0 M d mc ms (.ref a :: []) h post) (hrm : Rm R k n d mc ms M.2.2.1) (hcat : (st.map fun v => v.category).sum ≤ 8)
    (kk : ∀ (r : Option Value) (h' : AH), post r h' → Run l D cA N0 own cc nL ret nm R X F h' (k + mc) (n + ms) (pc + 3) L (r.toList ++ st)) : Run l D cA N0 own cc nL ret nm R X F h k n pc L (.ref a :: st) := R_callNG (As := []) hcal hlink hins hret hini1 hd hsp rfl hrm hcat kk
theorem R_callV1 {M : MI} {idx ci N d mc ms : Nat} {a : Nat} {b0 : Value} {fs : List Value} {T : u_T} {post : Option Value → AH → Prop} (hcal : Cal M 1) (hlink : Cond.methodLink own idx M.1 ∈ WSa) (hins : Cond.instanceMethod M.1 ∈ WSa) (hsel : Cond.selects M.1.cls M.1 M.1 ∈ WSa) (hd : decode cc pc = .ok (.invokevirtual idx, 3)) (hsp : Spec l D cA N0 M d mc ms (.ref a :: [b0]) h post) (hrm : Rm R k n d mc ms M.2.2.1) (hcat : (st.map fun v => v.category).sum ≤ 8) (hc : vwCl[ci]? = some (M.1.cls, T, N)) (ha : h.2 a = some (.inr (ci, fs)))
    (kk : ∀ (r : Option Value) (h' : AH), post r h' → Run l D cA N0 own cc nL ret nm R X F h' (k + mc) (n + ms) (pc + 3) L (r.toList ++ st)) : Run l D cA N0 own cc nL ret nm R X F h k n pc L (b0 :: .ref a :: st) := R_callVG (As := [b0]) hcal hlink hins hsel hd hsp rfl hrm hcat hc ha kk
theorem R_callS1 {M : MI} {idx d mc ms : Nat} {b0 : Value} {post : Option Value → AH → Prop} (hcal : Cal M 1) (hlink : Cond.methodLink own idx M.1 ∈ WSa) (hst : Cond.static M.1 ∈ WSa) (hd : decode cc pc = .ok (.invokestatic idx, 3)) (hsp : Spec l D cA N0 M d mc ms [b0] h post) (hrm : Rm R k n d mc ms M.2.2.1) (hcat : (st.map fun v => v.category).sum ≤ 8)
    (kk : ∀ (r : Option Value) (h' : AH), post r h' → Run l D cA N0 own cc nL ret nm R X F h' (k + mc) (n + ms) (pc + 3) L (r.toList ++ st)) : Run l D cA N0 own cc nL ret nm R X F h k n pc L (b0 :: st) := R_callSG (As := [b0]) hcal hlink hst hd hsp rfl hrm hcat kk
theorem R_callI1 {M : MI} {idx d mc ms : Nat} {a : Nat} {b0 : Value} {post : Option Value → AH → Prop} (hcal : Cal M 1) (hlink : Cond.methodLink own idx M.1 ∈ WSa) (hins : Cond.instanceMethod M.1 ∈ WSa) (hret : M.2.2.2 = none) (hini1 : M.1.name = "<init>") (hd : decode cc pc = .ok (.invokespecial idx, 3)) (hsp : Spec l D cA N0 M d mc ms (.ref a :: [b0]) h post) (hrm : Rm R k n d mc ms M.2.2.1) (hcat : (st.map fun v => v.category).sum ≤ 8)
    (kk : ∀ (r : Option Value) (h' : AH), post r h' → Run l D cA N0 own cc nL ret nm R X F h' (k + mc) (n + ms) (pc + 3) L (r.toList ++ st)) : Run l D cA N0 own cc nL ret nm R X F h k n pc L (b0 :: .ref a :: st) := R_callIG (As := [b0]) hcal hlink hins hret hini1 hd hsp rfl hrm hcat kk
theorem R_callN1 {M : MI} {idx d mc ms : Nat} {a : Nat} {host : String} {b0 : Value} {post : Option Value → AH → Prop} (hcal : Cal M 1) (hlink : ∀ U : State, Nst U → va_Nw (.methodLinkNest own idx M.1 host) U) (hins : Cond.instanceMethod M.1 ∈ WSa) (hret : M.2.2.2 = none) (hini1 : M.1.name = "<init>") (hd : decode cc pc = .ok (.invokespecial idx, 3)) (hsp : Spec l D cA N0 M d mc ms (.ref a :: [b0]) h post) (hrm : Rm R k n d mc ms M.2.2.1) (hcat : (st.map fun v => v.category).sum ≤ 8)
    (kk : ∀ (r : Option Value) (h' : AH), post r h' → Run l D cA N0 own cc nL ret nm R X F h' (k + mc) (n + ms) (pc + 3) L (r.toList ++ st)) : Run l D cA N0 own cc nL ret nm R X F h k n pc L (b0 :: .ref a :: st) := R_callNG (As := [b0]) hcal hlink hins hret hini1 hd hsp rfl hrm hcat kk
theorem R_callV2 {M : MI} {idx ci N d mc ms : Nat} {a : Nat} {b0 b1 : Value} {fs : List Value} {T : u_T} {post : Option Value → AH → Prop} (hcal : Cal M 2) (hlink : Cond.methodLink own idx M.1 ∈ WSa) (hins : Cond.instanceMethod M.1 ∈ WSa) (hsel : Cond.selects M.1.cls M.1 M.1 ∈ WSa) (hd : decode cc pc = .ok (.invokevirtual idx, 3)) (hsp : Spec l D cA N0 M d mc ms (.ref a :: [b0, b1]) h post) (hrm : Rm R k n d mc ms M.2.2.1) (hcat : (st.map fun v => v.category).sum ≤ 8) (hc : vwCl[ci]? = some (M.1.cls, T, N)) (ha : h.2 a = some (.inr (ci, fs)))
    (kk : ∀ (r : Option Value) (h' : AH), post r h' → Run l D cA N0 own cc nL ret nm R X F h' (k + mc) (n + ms) (pc + 3) L (r.toList ++ st)) : Run l D cA N0 own cc nL ret nm R X F h k n pc L (b1 :: b0 :: .ref a :: st) := R_callVG (As := [b0, b1]) hcal hlink hins hsel hd hsp rfl hrm hcat hc ha kk
theorem R_callS2 {M : MI} {idx d mc ms : Nat} {b0 b1 : Value} {post : Option Value → AH → Prop} (hcal : Cal M 2) (hlink : Cond.methodLink own idx M.1 ∈ WSa) (hst : Cond.static M.1 ∈ WSa) (hd : decode cc pc = .ok (.invokestatic idx, 3)) (hsp : Spec l D cA N0 M d mc ms [b0, b1] h post) (hrm : Rm R k n d mc ms M.2.2.1) (hcat : (st.map fun v => v.category).sum ≤ 8)
    (kk : ∀ (r : Option Value) (h' : AH), post r h' → Run l D cA N0 own cc nL ret nm R X F h' (k + mc) (n + ms) (pc + 3) L (r.toList ++ st)) : Run l D cA N0 own cc nL ret nm R X F h k n pc L (b1 :: b0 :: st) := R_callSG (As := [b0, b1]) hcal hlink hst hd hsp rfl hrm hcat kk
theorem R_callV3 {M : MI} {idx ci N d mc ms : Nat} {a : Nat} {b0 b1 b2 : Value} {fs : List Value} {T : u_T} {post : Option Value → AH → Prop} (hcal : Cal M 3) (hlink : Cond.methodLink own idx M.1 ∈ WSa) (hins : Cond.instanceMethod M.1 ∈ WSa) (hsel : Cond.selects M.1.cls M.1 M.1 ∈ WSa) (hd : decode cc pc = .ok (.invokevirtual idx, 3)) (hsp : Spec l D cA N0 M d mc ms (.ref a :: [b0, b1, b2]) h post) (hrm : Rm R k n d mc ms M.2.2.1) (hcat : (st.map fun v => v.category).sum ≤ 8) (hc : vwCl[ci]? = some (M.1.cls, T, N)) (ha : h.2 a = some (.inr (ci, fs)))
    (kk : ∀ (r : Option Value) (h' : AH), post r h' → Run l D cA N0 own cc nL ret nm R X F h' (k + mc) (n + ms) (pc + 3) L (r.toList ++ st)) : Run l D cA N0 own cc nL ret nm R X F h k n pc L (b2 :: b1 :: b0 :: .ref a :: st) := R_callVG (As := [b0, b1, b2]) hcal hlink hins hsel hd hsp rfl hrm hcat hc ha kk
theorem R_callS3 {M : MI} {idx d mc ms : Nat} {b0 b1 b2 : Value} {post : Option Value → AH → Prop} (hcal : Cal M 3) (hlink : Cond.methodLink own idx M.1 ∈ WSa) (hst : Cond.static M.1 ∈ WSa) (hd : decode cc pc = .ok (.invokestatic idx, 3)) (hsp : Spec l D cA N0 M d mc ms [b0, b1, b2] h post) (hrm : Rm R k n d mc ms M.2.2.1) (hcat : (st.map fun v => v.category).sum ≤ 8)
    (kk : ∀ (r : Option Value) (h' : AH), post r h' → Run l D cA N0 own cc nL ret nm R X F h' (k + mc) (n + ms) (pc + 3) L (r.toList ++ st)) : Run l D cA N0 own cc nL ret nm R X F h k n pc L (b2 :: b1 :: b0 :: st) := R_callSG (As := [b0, b1, b2]) hcal hlink hst hd hsp rfl hrm hcat kk
theorem R_callV4 {M : MI} {idx ci N d mc ms : Nat} {a : Nat} {b0 b1 b2 b3 : Value} {fs : List Value} {T : u_T} {post : Option Value → AH → Prop} (hcal : Cal M 4) (hlink : Cond.methodLink own idx M.1 ∈ WSa) (hins : Cond.instanceMethod M.1 ∈ WSa) (hsel : Cond.selects M.1.cls M.1 M.1 ∈ WSa) (hd : decode cc pc = .ok (.invokevirtual idx, 3)) (hsp : Spec l D cA N0 M d mc ms (.ref a :: [b0, b1, b2, b3]) h post) (hrm : Rm R k n d mc ms M.2.2.1) (hcat : (st.map fun v => v.category).sum ≤ 8) (hc : vwCl[ci]? = some (M.1.cls, T, N)) (ha : h.2 a = some (.inr (ci, fs)))
    (kk : ∀ (r : Option Value) (h' : AH), post r h' → Run l D cA N0 own cc nL ret nm R X F h' (k + mc) (n + ms) (pc + 3) L (r.toList ++ st)) : Run l D cA N0 own cc nL ret nm R X F h k n pc L (b3 :: b2 :: b1 :: b0 :: .ref a :: st) := R_callVG (As := [b0, b1, b2, b3]) hcal hlink hins hsel hd hsp rfl hrm hcat hc ha kk
theorem R_callS4 {M : MI} {idx d mc ms : Nat} {b0 b1 b2 b3 : Value} {post : Option Value → AH → Prop} (hcal : Cal M 4) (hlink : Cond.methodLink own idx M.1 ∈ WSa) (hst : Cond.static M.1 ∈ WSa) (hd : decode cc pc = .ok (.invokestatic idx, 3)) (hsp : Spec l D cA N0 M d mc ms [b0, b1, b2, b3] h post) (hrm : Rm R k n d mc ms M.2.2.1) (hcat : (st.map fun v => v.category).sum ≤ 8)
    (kk : ∀ (r : Option Value) (h' : AH), post r h' → Run l D cA N0 own cc nL ret nm R X F h' (k + mc) (n + ms) (pc + 3) L (r.toList ++ st)) : Run l D cA N0 own cc nL ret nm R X F h k n pc L (b3 :: b2 :: b1 :: b0 :: st) := R_callSG (As := [b0, b1, b2, b3]) hcal hlink hst hd hsp rfl hrm hcat kk
theorem R_callV5 {M : MI} {idx ci N d mc ms : Nat} {a : Nat} {b0 b1 b2 b3 b4 : Value} {fs : List Value} {T : u_T} {post : Option Value → AH → Prop} (hcal : Cal M 5) (hlink : Cond.methodLink own idx M.1 ∈ WSa) (hins : Cond.instanceMethod M.1 ∈ WSa) (hsel : Cond.selects M.1.cls M.1 M.1 ∈ WSa) (hd : decode cc pc = .ok (.invokevirtual idx, 3)) (hsp : Spec l D cA N0 M d mc ms (.ref a :: [b0, b1, b2, b3, b4]) h post) (hrm : Rm R k n d mc ms M.2.2.1) (hcat : (st.map fun v => v.category).sum ≤ 8) (hc : vwCl[ci]? = some (M.1.cls, T, N)) (ha : h.2 a = some (.inr (ci, fs)))
    (kk : ∀ (r : Option Value) (h' : AH), post r h' → Run l D cA N0 own cc nL ret nm R X F h' (k + mc) (n + ms) (pc + 3) L (r.toList ++ st)) : Run l D cA N0 own cc nL ret nm R X F h k n pc L (b4 :: b3 :: b2 :: b1 :: b0 :: .ref a :: st) := R_callVG (As := [b0, b1, b2, b3, b4]) hcal hlink hins hsel hd hsp rfl hrm hcat hc ha kk
theorem R_callS5 {M : MI} {idx d mc ms : Nat} {b0 b1 b2 b3 b4 : Value} {post : Option Value → AH → Prop} (hcal : Cal M 5) (hlink : Cond.methodLink own idx M.1 ∈ WSa) (hst : Cond.static M.1 ∈ WSa) (hd : decode cc pc = .ok (.invokestatic idx, 3)) (hsp : Spec l D cA N0 M d mc ms [b0, b1, b2, b3, b4] h post) (hrm : Rm R k n d mc ms M.2.2.1) (hcat : (st.map fun v => v.category).sum ≤ 8)
    (kk : ∀ (r : Option Value) (h' : AH), post r h' → Run l D cA N0 own cc nL ret nm R X F h' (k + mc) (n + ms) (pc + 3) L (r.toList ++ st)) : Run l D cA N0 own cc nL ret nm R X F h k n pc L (b4 :: b3 :: b2 :: b1 :: b0 :: st) := R_callSG (As := [b0, b1, b2, b3, b4]) hcal hlink hst hd hsp rfl hrm hcat kk
theorem R_callV6 {M : MI} {idx ci N d mc ms : Nat} {a : Nat} {b0 b1 b2 b3 b4 b5 : Value} {fs : List Value} {T : u_T} {post : Option Value → AH → Prop} (hcal : Cal M 6) (hlink : Cond.methodLink own idx M.1 ∈ WSa) (hins : Cond.instanceMethod M.1 ∈ WSa) (hsel : Cond.selects M.1.cls M.1 M.1 ∈ WSa) (hd : decode cc pc = .ok (.invokevirtual idx, 3)) (hsp : Spec l D cA N0 M d mc ms (.ref a :: [b0, b1, b2, b3, b4, b5]) h post) (hrm : Rm R k n d mc ms M.2.2.1) (hcat : (st.map fun v => v.category).sum ≤ 8) (hc : vwCl[ci]? = some (M.1.cls, T, N)) (ha : h.2 a = some (.inr (ci, fs)))
    (kk : ∀ (r : Option Value) (h' : AH), post r h' → Run l D cA N0 own cc nL ret nm R X F h' (k + mc) (n + ms) (pc + 3) L (r.toList ++ st)) : Run l D cA N0 own cc nL ret nm R X F h k n pc L (b5 :: b4 :: b3 :: b2 :: b1 :: b0 :: .ref a :: st) := R_callVG (As := [b0, b1, b2, b3, b4, b5]) hcal hlink hins hsel hd hsp rfl hrm hcat hc ha kk
theorem R_callS6 {M : MI} {idx d mc ms : Nat} {b0 b1 b2 b3 b4 b5 : Value} {post : Option Value → AH → Prop} (hcal : Cal M 6) (hlink : Cond.methodLink own idx M.1 ∈ WSa) (hst : Cond.static M.1 ∈ WSa) (hd : decode cc pc = .ok (.invokestatic idx, 3)) (hsp : Spec l D cA N0 M d mc ms [b0, b1, b2, b3, b4, b5] h post) (hrm : Rm R k n d mc ms M.2.2.1) (hcat : (st.map fun v => v.category).sum ≤ 8)
    (kk : ∀ (r : Option Value) (h' : AH), post r h' → Run l D cA N0 own cc nL ret nm R X F h' (k + mc) (n + ms) (pc + 3) L (r.toList ++ st)) : Run l D cA N0 own cc nL ret nm R X F h k n pc L (b5 :: b4 :: b3 :: b2 :: b1 :: b0 :: st) := R_callSG (As := [b0, b1, b2, b3, b4, b5]) hcal hlink hst hd hsp rfl hrm hcat kk
theorem Qg_mono {post post' : Option Value → AH → Prop} (hp : ∀ r h, post r h → post' r h) {a : Array Value} {s : State} {o : Outcome} {t : State} (q : Qg D cA N0 post a s o t) : Qg D cA N0 post' a s o t := by
  obtain ⟨⟨r, h', q1, q2, q3⟩, q4⟩ := q
  exact ⟨⟨r, h', q1, hp _ _ q2, q3⟩, q4⟩
theorem R_post {M : MI} {d mc ms : Nat} {post post' : Option Value → AH → Prop} (hp : ∀ r h, post r h → post' r h) (r : RunM l D cA N0 M d mc ms post h k n pc L st) : RunM l D cA N0 M d mc ms post' h k n pc L st := by
  intro p e s m args below meth c H locs ls Cc hR hS hL T hT X
  obtain ⟨t, a1, o, b1, b2, b3, b4⟩ := r p e s m args below meth c H locs ls Cc hR hS hL T hT X
  exact ⟨t, a1, o, b1, b2, Qg_mono hp b3, b4⟩
theorem R_iret {M : MI} {d mc ms : Nat} {post : Option Value → AH → Prop} {v : Int32} {ty : FieldType} (hret : M.2.2.2 = some ty) (hn : narrow ty (.int v) = .int v) (hd : decode M.2.1 pc = .ok (.ireturn, 1)) (hp : post (some (.int v)) h) : RunM l D cA N0 M d mc ms post h mc ms pc L [.int v] := by
  intro p e s m args below meth c H locs ls C hR hS hL
  obtain ⟨hx, hb, hml, hrt, hlk, hown, hnm, hts, hK, hN, hX⟩ := id C
  exact W.zret hx hb (hrt.trans hret) hn (fun t ht hW => ⟨⟨some (.int v), h, rfl, hp, by rw [ht]; exact hR⟩, hS.F ht⟩) hS.2.2 hd hlk
theorem R_vret {M : MI} {d mc ms : Nat} {post : Option Value → AH → Prop} (hret : M.2.2.2 = none) (hd : decode M.2.1 pc = .ok (.return_, 1)) (hp : post none h) : RunM l D cA N0 M d mc ms post h mc ms pc L [] := by
  intro p e s m args below meth c H locs ls C hR hS hL
  obtain ⟨hx, hb, hml, hrt, hlk, hown, hnm, hts, hK, hN, hX⟩ := id C
  exact W.vret hx hb (hrt.trans hret) (fun t ht hW => ⟨⟨none, h, rfl, hp, by rw [ht]; exact hR⟩, hS.F ht⟩) hS.2.2 hd hlk
theorem R_aret {M : MI} {d mc ms : Nat} {post : Option Value → AH → Prop} {v : Value} {C0 : String} (hret : M.2.2.2 = some (.object C0)) (hv : v = .null ∨ ∃ a, v = .ref a) (hd : decode M.2.1 pc = .ok (.areturn, 1)) (hp : post (some v) h) : RunM l D cA N0 M d mc ms post h mc ms pc L [v] := by
  intro p e s m args below meth c H locs ls C hR hS hL
  obtain ⟨hx, hb, hml, hrt, hlk, hown, hnm, hts, hK, hN, hX⟩ := id C
  exact W.aret hx hb (hrt.trans hret) (Or.inl ⟨C0, rfl⟩) hv (fun t ht hW => ⟨⟨some v, h, rfl, hp, by rw [ht]; exact hR⟩, hS.F ht⟩) hS.2.2 hd hlk
/-- a contract with a weaker end -/
theorem Run.cast {h2 : AH} {k2 n2 pc2 : Nat} {L2 : List (Option Value)} {st2 : List Value} (r : Run l D cA N0 own cc nL ret nm R X F h k n pc L st) (e1 : h = h2) (e2 : k = k2) (e3 : n = n2) (e4 : pc = pc2) (e5 : L = L2) (e6 : st = st2) : Run l D cA N0 own cc nL ret nm R X F h2 k2 n2 pc2 L2 st2 := by
  subst e1; subst e2; subst e3; subst e4; subst e5; subst e6; exact r
end RC
end
section
/-! BASE (laid by base.py): methods, what the tables say of them, objects by their fields, a rule for each field instruction, switches -/
abbrev m_X0_init : MI := (yX0_init, cX0_init, 1, (Option.none : Option Jvm.ClassFile.FieldType))
theorem cal_X0_init : Cal m_X0_init 0 := ⟨⟨by decide +kernel, by decide +kernel, by decide +kernel⟩, kw58, kw23⟩
abbrev m_X0_exists : MI := (yX0_exists, cX0_exists, 1, (Option.some Jvm.ClassFile.FieldType.boolean))
theorem cal_X0_exists : Cal m_X0_exists 1 := ⟨⟨by decide +kernel, by decide +kernel, by decide +kernel⟩, kw383, kw23⟩
abbrev m_X0_isCard : MI := (yX0_isCard, cX0_isCard, 1, (Option.some Jvm.ClassFile.FieldType.boolean))
theorem cal_X0_isCard : Cal m_X0_isCard 1 := ⟨⟨by decide +kernel, by decide +kernel, by decide +kernel⟩, kw685, kw23⟩
abbrev m_X0_copyFrom : MI := (yX0_copyFrom, cX0_copyFrom, 2, (Option.none : Option Jvm.ClassFile.FieldType))
theorem cal_X0_copyFrom : Cal m_X0_copyFrom 1 := ⟨⟨by decide +kernel, by decide +kernel, by decide +kernel⟩, kw269, kw23⟩
abbrev m_X0_holds : MI := (yX0_holds, cX0_holds, 2, (Option.some Jvm.ClassFile.FieldType.boolean))
theorem cal_X0_holds : Cal m_X0_holds 1 := ⟨⟨by decide +kernel, by decide +kernel, by decide +kernel⟩, kw705, kw23⟩
abbrev m_X0_layDownCard : MI := (yX0_layDownCard, cX0_layDownCard, 1, (Option.none : Option Jvm.ClassFile.FieldType))
theorem cal_X0_layDownCard : Cal m_X0_layDownCard 0 := ⟨⟨by decide +kernel, by decide +kernel, by decide +kernel⟩, kw716, kw23⟩
abbrev m_X1_init : MI := (yX1_init, cX1_init, 2, (Option.none : Option Jvm.ClassFile.FieldType))
theorem cal_X1_init : Cal m_X1_init 0 := ⟨⟨by decide +kernel, by decide +kernel, by decide +kernel⟩, kw52, kw22⟩
abbrev m_X1_copyFrom : MI := (yX1_copyFrom, cX1_copyFrom, 3, (Option.none : Option Jvm.ClassFile.FieldType))
theorem cal_X1_copyFrom : Cal m_X1_copyFrom 1 := ⟨⟨by decide +kernel, by decide +kernel, by decide +kernel⟩, kw265, kw22⟩
abbrev m_X1_turn : MI := (yX1_turn, cX1_turn, 1, (Option.some Jvm.ClassFile.FieldType.int))
theorem cal_X1_turn : Cal m_X1_turn 0 := ⟨⟨by decide +kernel, by decide +kernel, by decide +kernel⟩, kw322, kw22⟩
abbrev m_X1_captainOf : MI := (yX1_captainOf, cX1_captainOf, 2, (Option.some (Jvm.ClassFile.FieldType.object "WindCardShips$Captain")))
theorem cal_X1_captainOf : Cal m_X1_captainOf 1 := ⟨⟨by decide +kernel, by decide +kernel, by decide +kernel⟩, kw485, kw22⟩
abbrev m_X1_known : MI := (yX1_known, cX1_known, 2, (Option.some (Jvm.ClassFile.FieldType.object "WindCardShips$Ship")))
theorem cal_X1_known : Cal m_X1_known 1 := ⟨⟨by decide +kernel, by decide +kernel, by decide +kernel⟩, kw284, kw22⟩
abbrev m_X1_shipOn : MI := (yX1_shipOn, cX1_shipOn, 6, (Option.some (Jvm.ClassFile.FieldType.object "WindCardShips$Ship")))
theorem cal_X1_shipOn : Cal m_X1_shipOn 1 := ⟨⟨by decide +kernel, by decide +kernel, by decide +kernel⟩, kw410, kw22⟩
abbrev m_X1_isIsland : MI := (yX1_isIsland, cX1_isIsland, 2, (Option.some Jvm.ClassFile.FieldType.boolean))
theorem cal_X1_isIsland : Cal m_X1_isIsland 1 := ⟨⟨by decide +kernel, by decide +kernel, by decide +kernel⟩, kw423, kw22⟩
abbrev m_X1_isFree : MI := (yX1_isFree, cX1_isFree, 2, (Option.some Jvm.ClassFile.FieldType.boolean))
theorem cal_X1_isFree : Cal m_X1_isFree 1 := ⟨⟨by decide +kernel, by decide +kernel, by decide +kernel⟩, kw439, kw22⟩
abbrev m_X1_hexAhead : MI := (yX1_hexAhead, cX1_hexAhead, 6, (Option.some Jvm.ClassFile.FieldType.int))
theorem cal_X1_hexAhead : Cal m_X1_hexAhead 3 := ⟨⟨by decide +kernel, by decide +kernel, by decide +kernel⟩, kw548, kw22⟩
abbrev m_X1_contentOf : MI := (yX1_contentOf, cX1_contentOf, 3, (Option.some Jvm.ClassFile.FieldType.int))
theorem cal_X1_contentOf : Cal m_X1_contentOf 1 := ⟨⟨by decide +kernel, by decide +kernel, by decide +kernel⟩, kw419, kw22⟩
abbrev m_X1_placeIsland : MI := (yX1_placeIsland, cX1_placeIsland, 3, (Option.some Jvm.ClassFile.FieldType.int))
theorem cal_X1_placeIsland : Cal m_X1_placeIsland 2 := ⟨⟨by decide +kernel, by decide +kernel, by decide +kernel⟩, kw403, kw22⟩
abbrev m_X1_launch : MI := (yX1_launch, cX1_launch, 8, (Option.some Jvm.ClassFile.FieldType.int))
theorem cal_X1_launch : Cal m_X1_launch 6 := ⟨⟨by decide +kernel, by decide +kernel, by decide +kernel⟩, kw431, kw22⟩
abbrev m_X1_tellCard : MI := (yX1_tellCard, cX1_tellCard, 4, (Option.some Jvm.ClassFile.FieldType.int))
theorem cal_X1_tellCard : Cal m_X1_tellCard 2 := ⟨⟨by decide +kernel, by decide +kernel, by decide +kernel⟩, kw700, kw22⟩
abbrev m_X1_beginMoves : MI := (yX1_beginMoves, cX1_beginMoves, 2, (Option.none : Option Jvm.ClassFile.FieldType))
theorem cal_X1_beginMoves : Cal m_X1_beginMoves 0 := ⟨⟨by decide +kernel, by decide +kernel, by decide +kernel⟩, kw710, kw22⟩
abbrev m_X1_directionBy : MI := (yX1_directionBy, cX1_directionBy, 2, (Option.some Jvm.ClassFile.FieldType.int))
theorem cal_X1_directionBy : Cal m_X1_directionBy 1 := ⟨⟨by decide +kernel, by decide +kernel, by decide +kernel⟩, kw689, kw22⟩
abbrev m_X1_strengthBy : MI := (yX1_strengthBy, cX1_strengthBy, 1, (Option.some Jvm.ClassFile.FieldType.int))
theorem cal_X1_strengthBy : Cal m_X1_strengthBy 1 := ⟨⟨by decide +kernel, by decide +kernel, by decide +kernel⟩, kw692, kw22⟩
abbrev m_X1_toldSet : MI := (yX1_toldSet, cX1_toldSet, 1, (Option.some Jvm.ClassFile.FieldType.int))
theorem cal_X1_toldSet : Cal m_X1_toldSet 0 := ⟨⟨by decide +kernel, by decide +kernel, by decide +kernel⟩, kw364, kw22⟩
abbrev m_X1_stepsNow : MI := (yX1_stepsNow, cX1_stepsNow, 2, (Option.some Jvm.ClassFile.FieldType.int))
theorem cal_X1_stepsNow : Cal m_X1_stepsNow 1 := ⟨⟨by decide +kernel, by decide +kernel, by decide +kernel⟩, kw452, kw22⟩
abbrev m_X1_sailAlong : MI := (yX1_sailAlong, cX1_sailAlong, 8, (Option.some Jvm.ClassFile.FieldType.int))
theorem cal_X1_sailAlong : Cal m_X1_sailAlong 2 := ⟨⟨by decide +kernel, by decide +kernel, by decide +kernel⟩, kw605, kw22⟩
abbrev m_X1_fireAt : MI := (yX1_fireAt, cX1_fireAt, 8, (Option.some Jvm.ClassFile.FieldType.int))
theorem cal_X1_fireAt : Cal m_X1_fireAt 3 := ⟨⟨by decide +kernel, by decide +kernel, by decide +kernel⟩, kw627, kw22⟩
abbrev m_X1_shotLength : MI := (yX1_shotLength, cX1_shotLength, 6, (Option.some Jvm.ClassFile.FieldType.int))
theorem cal_X1_shotLength : Cal m_X1_shotLength 3 := ⟨⟨by decide +kernel, by decide +kernel, by decide +kernel⟩, kw504, kw22⟩
abbrev m_X1_distanceAlong : MI := (yX1_distanceAlong, cX1_distanceAlong, 7, (Option.some Jvm.ClassFile.FieldType.int))
theorem cal_X1_distanceAlong : Cal m_X1_distanceAlong 3 := ⟨⟨by decide +kernel, by decide +kernel, by decide +kernel⟩, kw508, kw22⟩
abbrev m_X1_targetSet : MI := (yX1_targetSet, cX1_targetSet, 8, (Option.some Jvm.ClassFile.FieldType.int))
theorem cal_X1_targetSet : Cal m_X1_targetSet 2 := ⟨⟨by decide +kernel, by decide +kernel, by decide +kernel⟩, kw500, kw22⟩
abbrev m_X1_threatSet : MI := (yX1_threatSet, cX1_threatSet, 7, (Option.some Jvm.ClassFile.FieldType.int))
theorem cal_X1_threatSet : Cal m_X1_threatSet 1 := ⟨⟨by decide +kernel, by decide +kernel, by decide +kernel⟩, kw567, kw22⟩
abbrev m_X1_grappleTwo : MI := (yX1_grappleTwo, cX1_grappleTwo, 6, (Option.some Jvm.ClassFile.FieldType.int))
theorem cal_X1_grappleTwo : Cal m_X1_grappleTwo 2 := ⟨⟨by decide +kernel, by decide +kernel, by decide +kernel⟩, kw650, kw22⟩
abbrev m_X1_cutLoose : MI := (yX1_cutLoose, cX1_cutLoose, 4, (Option.some Jvm.ClassFile.FieldType.int))
theorem cal_X1_cutLoose : Cal m_X1_cutLoose 1 := ⟨⟨by decide +kernel, by decide +kernel, by decide +kernel⟩, kw663, kw22⟩
abbrev m_X1_release : MI := (yX1_release, cX1_release, 3, (Option.none : Option Jvm.ClassFile.FieldType))
theorem cal_X1_release : Cal m_X1_release 1 := ⟨⟨by decide +kernel, by decide +kernel, by decide +kernel⟩, kw299, kw22⟩
abbrev m_X1_fight : MI := (yX1_fight, cX1_fight, 5, (Option.none : Option Jvm.ClassFile.FieldType))
theorem cal_X1_fight : Cal m_X1_fight 2 := ⟨⟨by decide +kernel, by decide +kernel, by decide +kernel⟩, kw288, kw22⟩
abbrev m_X1_capture : MI := (yX1_capture, cX1_capture, 4, (Option.none : Option Jvm.ClassFile.FieldType))
theorem cal_X1_capture : Cal m_X1_capture 2 := ⟨⟨by decide +kernel, by decide +kernel, by decide +kernel⟩, kw295, kw22⟩
abbrev m_X1_mend : MI := (yX1_mend, cX1_mend, 6, (Option.some Jvm.ClassFile.FieldType.int))
theorem cal_X1_mend : Cal m_X1_mend 2 := ⟨⟨by decide +kernel, by decide +kernel, by decide +kernel⟩, kw671, kw22⟩
abbrev m_X1_mendable : MI := (yX1_mendable, cX1_mendable, 3, (Option.some Jvm.ClassFile.FieldType.int))
theorem cal_X1_mendable : Cal m_X1_mendable 3 := ⟨⟨by decide +kernel, by decide +kernel, by decide +kernel⟩, kw674, kw22⟩
abbrev m_X1_endTurn : MI := (yX1_endTurn, cX1_endTurn, 6, (Option.some Jvm.ClassFile.FieldType.int))
theorem cal_X1_endTurn : Cal m_X1_endTurn 0 := ⟨⟨by decide +kernel, by decide +kernel, by decide +kernel⟩, kw280, kw22⟩
abbrev m_X1_tally : MI := (yX1_tally, cX1_tally, 2, (Option.some Jvm.ClassFile.FieldType.int))
theorem cal_X1_tally : Cal m_X1_tally 1 := ⟨⟨by decide +kernel, by decide +kernel, by decide +kernel⟩, kw360, kw22⟩
abbrev m_X1_islandCount : MI := (yX1_islandCount, cX1_islandCount, 6, (Option.some Jvm.ClassFile.FieldType.int))
theorem cal_X1_islandCount : Cal m_X1_islandCount 0 := ⟨⟨by decide +kernel, by decide +kernel, by decide +kernel⟩, kw376, kw22⟩
abbrev m_X1_fleetOf : MI := (yX1_fleetOf, cX1_fleetOf, 7, (Option.some Jvm.ClassFile.FieldType.int))
theorem cal_X1_fleetOf : Cal m_X1_fleetOf 1 := ⟨⟨by decide +kernel, by decide +kernel, by decide +kernel⟩, kw368, kw22⟩
abbrev m_X1_hullsOf : MI := (yX1_hullsOf, cX1_hullsOf, 7, (Option.some Jvm.ClassFile.FieldType.int))
theorem cal_X1_hullsOf : Cal m_X1_hullsOf 1 := ⟨⟨by decide +kernel, by decide +kernel, by decide +kernel⟩, kw489, kw22⟩
abbrev m_X1_strengthOf : MI := (yX1_strengthOf, cX1_strengthOf, 7, (Option.some Jvm.ClassFile.FieldType.int))
theorem cal_X1_strengthOf : Cal m_X1_strengthOf 1 := ⟨⟨by decide +kernel, by decide +kernel, by decide +kernel⟩, kw387, kw22⟩
abbrev m_X1_tellOfCaptain : MI := (yX1_tellOfCaptain, cX1_tellOfCaptain, 4, (Option.some Jvm.ClassFile.FieldType.int))
theorem cal_X1_tellOfCaptain : Cal m_X1_tellOfCaptain 2 := ⟨⟨by decide +kernel, by decide +kernel, by decide +kernel⟩, kw481, kw22⟩
abbrev m_X1_tellOfShip : MI := (yX1_tellOfShip, cX1_tellOfShip, 3, (Option.some Jvm.ClassFile.FieldType.int))
theorem cal_X1_tellOfShip : Cal m_X1_tellOfShip 2 := ⟨⟨by decide +kernel, by decide +kernel, by decide +kernel⟩, kw448, kw22⟩
abbrev m_X2_exists : MI := (yX2_exists, cX2_exists, 1, (Option.some Jvm.ClassFile.FieldType.boolean))
theorem cal_X2_exists : Cal m_X2_exists 1 := ⟨⟨by decide +kernel, by decide +kernel, by decide +kernel⟩, kw406, kw30⟩
abbrev m_X2_isDirection : MI := (yX2_isDirection, cX2_isDirection, 1, (Option.some Jvm.ClassFile.FieldType.boolean))
theorem cal_X2_isDirection : Cal m_X2_isDirection 1 := ⟨⟨by decide +kernel, by decide +kernel, by decide +kernel⟩, kw435, kw30⟩
abbrev m_X2_next : MI := (yX2_next, cX2_next, 5, (Option.some Jvm.ClassFile.FieldType.int))
theorem cal_X2_next : Cal m_X2_next 2 := ⟨⟨by decide +kernel, by decide +kernel, by decide +kernel⟩, kw511, kw30⟩
abbrev m_X2_areNeighbors : MI := (yX2_areNeighbors, cX2_areNeighbors, 3, (Option.some Jvm.ClassFile.FieldType.boolean))
theorem cal_X2_areNeighbors : Cal m_X2_areNeighbors 2 := ⟨⟨by decide +kernel, by decide +kernel, by decide +kernel⟩, kw654, kw30⟩
abbrev m_X2_rowStep : MI := (yX2_rowStep, cX2_rowStep, 1, (Option.some Jvm.ClassFile.FieldType.int))
theorem cal_X2_rowStep : Cal m_X2_rowStep 1 := ⟨⟨by decide +kernel, by decide +kernel, by decide +kernel⟩, kw516, kw30⟩
abbrev m_X2_columnStep : MI := (yX2_columnStep, cX2_columnStep, 1, (Option.some Jvm.ClassFile.FieldType.int))
theorem cal_X2_columnStep : Cal m_X2_columnStep 1 := ⟨⟨by decide +kernel, by decide +kernel, by decide +kernel⟩, kw519, kw30⟩
abbrev m_X3_init : MI := (yX3_init, cX3_init, 2, (Option.none : Option Jvm.ClassFile.FieldType))
theorem cal_X3_init : Cal m_X3_init 0 := ⟨⟨by decide +kernel, by decide +kernel, by decide +kernel⟩, kw180, kw25⟩
abbrev m_X3_size : MI := (yX3_size, cX3_size, 1, (Option.some Jvm.ClassFile.FieldType.int))
theorem cal_X3_size : Cal m_X3_size 0 := ⟨⟨by decide +kernel, by decide +kernel, by decide +kernel⟩, kw352, kw25⟩
abbrev m_X3_keepAside : MI := (yX3_keepAside, cX3_keepAside, 2, (Option.none : Option Jvm.ClassFile.FieldType))
theorem cal_X3_keepAside : Cal m_X3_keepAside 1 := ⟨⟨by decide +kernel, by decide +kernel, by decide +kernel⟩, kw257, kw25⟩
abbrev m_X3_settle : MI := (yX3_settle, cX3_settle, 4, (Option.some Jvm.ClassFile.FieldType.int))
theorem cal_X3_settle : Cal m_X3_settle 1 := ⟨⟨by decide +kernel, by decide +kernel, by decide +kernel⟩, kw303, kw25⟩
abbrev m_X3_stepBack : MI := (yX3_stepBack, cX3_stepBack, 4, (Option.some Jvm.ClassFile.FieldType.int))
theorem cal_X3_stepBack : Cal m_X3_stepBack 1 := ⟨⟨by decide +kernel, by decide +kernel, by decide +kernel⟩, kw338, kw25⟩
abbrev m_X4_init : MI := (yX4_init, cX4_init, 1, (Option.none : Option Jvm.ClassFile.FieldType))
theorem cal_X4_init : Cal m_X4_init 0 := ⟨⟨by decide +kernel, by decide +kernel, by decide +kernel⟩, kw199, kw26⟩
abbrev m_X4_length : MI := (yX4_length, cX4_length, 1, (Option.some Jvm.ClassFile.FieldType.int))
theorem cal_X4_length : Cal m_X4_length 0 := ⟨⟨by decide +kernel, by decide +kernel, by decide +kernel⟩, kw356, kw26⟩
abbrev m_X5_isPath : MI := (yX5_isPath, cX5_isPath, 3, (Option.some Jvm.ClassFile.FieldType.boolean))
theorem cal_X5_isPath : Cal m_X5_isPath 1 := ⟨⟨by decide +kernel, by decide +kernel, by decide +kernel⟩, kw608, kw33⟩
abbrev m_X5_stepsOf : MI := (yX5_stepsOf, cX5_stepsOf, 3, (Option.some Jvm.ClassFile.FieldType.int))
theorem cal_X5_stepsOf : Cal m_X5_stepsOf 1 := ⟨⟨by decide +kernel, by decide +kernel, by decide +kernel⟩, kw540, kw33⟩
abbrev m_X5_unitOf : MI := (yX5_unitOf, cX5_unitOf, 3, (Option.some Jvm.ClassFile.FieldType.int))
theorem cal_X5_unitOf : Cal m_X5_unitOf 1 := ⟨⟨by decide +kernel, by decide +kernel, by decide +kernel⟩, kw617, kw33⟩
abbrev m_X5_turned : MI := (yX5_turned, cX5_turned, 2, (Option.some Jvm.ClassFile.FieldType.int))
theorem cal_X5_turned : Cal m_X5_turned 2 := ⟨⟨by decide +kernel, by decide +kernel, by decide +kernel⟩, kw551, kw33⟩
abbrev m_X6_init : MI := (yX6_init, cX6_init, 1, (Option.none : Option Jvm.ClassFile.FieldType))
theorem cal_X6_init : Cal m_X6_init 0 := ⟨⟨by decide +kernel, by decide +kernel, by decide +kernel⟩, kw222, kw27⟩
abbrev m_X6_explore : MI := (yX6_explore, cX6_explore, 6, (Option.none : Option Jvm.ClassFile.FieldType))
theorem cal_X6_explore : Cal m_X6_explore 3 := ⟨⟨by decide +kernel, by decide +kernel, by decide +kernel⟩, kw528, kw27⟩
abbrev m_X6_spread : MI := (yX6_spread, cX6_spread, 7, (Option.none : Option Jvm.ClassFile.FieldType))
theorem cal_X6_spread : Cal m_X6_spread 4 := ⟨⟨by decide +kernel, by decide +kernel, by decide +kernel⟩, kw544, kw27⟩
abbrev m_X6_note : MI := (yX6_note, cX6_note, 5, (Option.none : Option Jvm.ClassFile.FieldType))
theorem cal_X6_note : Cal m_X6_note 3 := ⟨⟨by decide +kernel, by decide +kernel, by decide +kernel⟩, kw535, kw27⟩
abbrev m_X6_bestPath : MI := (yX6_bestPath, cX6_bestPath, 3, (Option.some Jvm.ClassFile.FieldType.int))
theorem cal_X6_bestPath : Cal m_X6_bestPath 1 := ⟨⟨by decide +kernel, by decide +kernel, by decide +kernel⟩, kw559, kw27⟩
abbrev m_X6_tellOfWay : MI := (yX6_tellOfWay, cX6_tellOfWay, 4, (Option.some Jvm.ClassFile.FieldType.int))
theorem cal_X6_tellOfWay : Cal m_X6_tellOfWay 2 := ⟨⟨by decide +kernel, by decide +kernel, by decide +kernel⟩, kw593, kw27⟩
abbrev m_X6_headingAt : MI := (yX6_headingAt, cX6_headingAt, 2, (Option.some Jvm.ClassFile.FieldType.int))
theorem cal_X6_headingAt : Cal m_X6_headingAt 1 := ⟨⟨by decide +kernel, by decide +kernel, by decide +kernel⟩, kw597, kw27⟩
abbrev m_X6_reachedHexes : MI := (yX6_reachedHexes, cX6_reachedHexes, 3, (Option.some Jvm.ClassFile.FieldType.int))
theorem cal_X6_reachedHexes : Cal m_X6_reachedHexes 0 := ⟨⟨by decide +kernel, by decide +kernel, by decide +kernel⟩, kw555, kw27⟩
abbrev m_X7_init : MI := (yX7_init, cX7_init, 2, (Option.none : Option Jvm.ClassFile.FieldType))
theorem cal_X7_init : Cal m_X7_init 1 := ⟨⟨by decide +kernel, by decide +kernel, by decide +kernel⟩, kw78, kw24⟩
abbrev m_X7_hasSide : MI := (yX7_hasSide, cX7_hasSide, 1, (Option.some Jvm.ClassFile.FieldType.boolean))
theorem cal_X7_hasSide : Cal m_X7_hasSide 1 := ⟨⟨by decide +kernel, by decide +kernel, by decide +kernel⟩, kw496, kw24⟩
abbrev m_X7_copyFrom : MI := (yX7_copyFrom, cX7_copyFrom, 2, (Option.none : Option Jvm.ClassFile.FieldType))
theorem cal_X7_copyFrom : Cal m_X7_copyFrom 1 := ⟨⟨by decide +kernel, by decide +kernel, by decide +kernel⟩, kw276, kw24⟩
abbrev m_X7_floats : MI := (yX7_floats, cX7_floats, 1, (Option.some Jvm.ClassFile.FieldType.boolean))
theorem cal_X7_floats : Cal m_X7_floats 0 := ⟨⟨by decide +kernel, by decide +kernel, by decide +kernel⟩, kw372, kw24⟩
abbrev m_X7_isGrappled : MI := (yX7_isGrappled, cX7_isGrappled, 1, (Option.some Jvm.ClassFile.FieldType.boolean))
theorem cal_X7_isGrappled : Cal m_X7_isGrappled 0 := ⟨⟨by decide +kernel, by decide +kernel, by decide +kernel⟩, kw461, kw24⟩
abbrev m_X7_has : MI := (yX7_has, cX7_has, 2, (Option.some Jvm.ClassFile.FieldType.boolean))
theorem cal_X7_has : Cal m_X7_has 1 := ⟨⟨by decide +kernel, by decide +kernel, by decide +kernel⟩, kw613, kw24⟩
abbrev m_X7_stepsBy : MI := (yX7_stepsBy, cX7_stepsBy, 3, (Option.some Jvm.ClassFile.FieldType.int))
theorem cal_X7_stepsBy : Cal m_X7_stepsBy 2 := ⟨⟨by decide +kernel, by decide +kernel, by decide +kernel⟩, kw456, kw24⟩
abbrev m_X7_speedFactor : MI := (yX7_speedFactor, cX7_speedFactor, 3, (Option.some Jvm.ClassFile.FieldType.int))
theorem cal_X7_speedFactor : Cal m_X7_speedFactor 1 := ⟨⟨by decide +kernel, by decide +kernel, by decide +kernel⟩, kw465, kw24⟩
abbrev m_X7_hitsFrom : MI := (yX7_hitsFrom, cX7_hitsFrom, 2, (Option.some Jvm.ClassFile.FieldType.int))
theorem cal_X7_hitsFrom : Cal m_X7_hitsFrom 1 := ⟨⟨by decide +kernel, by decide +kernel, by decide +kernel⟩, kw579, kw24⟩
abbrev m_X7_suffer : MI := (yX7_suffer, cX7_suffer, 2, (Option.none : Option Jvm.ClassFile.FieldType))
theorem cal_X7_suffer : Cal m_X7_suffer 1 := ⟨⟨by decide +kernel, by decide +kernel, by decide +kernel⟩, kw637, kw24⟩
abbrev m_X7_noteShot : MI := (yX7_noteShot, cX7_noteShot, 3, (Option.none : Option Jvm.ClassFile.FieldType))
theorem cal_X7_noteShot : Cal m_X7_noteShot 2 := ⟨⟨by decide +kernel, by decide +kernel, by decide +kernel⟩, kw642, kw24⟩
abbrev m_X7_reloadingSides : MI := (yX7_reloadingSides, cX7_reloadingSides, 2, (Option.some Jvm.ClassFile.FieldType.int))
theorem cal_X7_reloadingSides : Cal m_X7_reloadingSides 1 := ⟨⟨by decide +kernel, by decide +kernel, by decide +kernel⟩, kw470, kw24⟩
abbrev m_X7_isReloading : MI := (yX7_isReloading, cX7_isReloading, 3, (Option.some Jvm.ClassFile.FieldType.boolean))
theorem cal_X7_isReloading : Cal m_X7_isReloading 2 := ⟨⟨by decide +kernel, by decide +kernel, by decide +kernel⟩, kw632, kw24⟩
abbrev m_X8_init : MI := (yX8_init, cX8_init, 1, (Option.none : Option Jvm.ClassFile.FieldType))
theorem cal_X8_init : Cal m_X8_init 0 := ⟨⟨by decide +kernel, by decide +kernel, by decide +kernel⟩, kw46, kw21⟩
abbrev m_X8_copyFrom : MI := (yX8_copyFrom, cX8_copyFrom, 2, (Option.none : Option Jvm.ClassFile.FieldType))
theorem cal_X8_copyFrom : Cal m_X8_copyFrom 1 := ⟨⟨by decide +kernel, by decide +kernel, by decide +kernel⟩, kw261, kw21⟩
abbrev m_X8_fillSlot : MI := (yX8_fillSlot, cX8_fillSlot, 2, (Option.some Jvm.ClassFile.FieldType.int))
theorem cal_X8_fillSlot : Cal m_X8_fillSlot 1 := ⟨⟨by decide +kernel, by decide +kernel, by decide +kernel⟩, kw314, kw21⟩
abbrev m_X8_resumeSlot : MI := (yX8_resumeSlot, cX8_resumeSlot, 2, (Option.some Jvm.ClassFile.FieldType.int))
theorem cal_X8_resumeSlot : Cal m_X8_resumeSlot 1 := ⟨⟨by decide +kernel, by decide +kernel, by decide +kernel⟩, kw330, kw21⟩
abbrev m_X8_slotOf : MI := (yX8_slotOf, cX8_slotOf, 2, (Option.some (Jvm.ClassFile.FieldType.object "WindCardShips$Game")))
theorem cal_X8_slotOf : Cal m_X8_slotOf 1 := ⟨⟨by decide +kernel, by decide +kernel, by decide +kernel⟩, kw318, kw21⟩
abbrev m_X9_init : MI := (yX9_init, cX9_init, 1, (Option.none : Option Jvm.ClassFile.FieldType))
theorem cal_X9_init : Cal m_X9_init 0 := ⟨⟨by decide +kernel, by decide +kernel, by decide +kernel⟩, kw38, kw20⟩
abbrev m_X9_setIsland : MI := (yX9_setIsland, cX9_setIsland, 3, (Option.some Jvm.ClassFile.FieldType.int))
theorem cal_X9_setIsland : Cal m_X9_setIsland 2 := ⟨⟨by decide +kernel, by decide +kernel, by decide +kernel⟩, kw399, kw20⟩
abbrev m_X9_addShip : MI := (yX9_addShip, cX9_addShip, 7, (Option.some Jvm.ClassFile.FieldType.int))
theorem cal_X9_addShip : Cal m_X9_addShip 6 := ⟨⟨by decide +kernel, by decide +kernel, by decide +kernel⟩, kw427, kw20⟩
abbrev m_X9_tell : MI := (yX9_tell, cX9_tell, 3, (Option.some Jvm.ClassFile.FieldType.int))
theorem cal_X9_tell : Cal m_X9_tell 2 := ⟨⟨by decide +kernel, by decide +kernel, by decide +kernel⟩, kw696, kw20⟩
abbrev m_X9_sail : MI := (yX9_sail, cX9_sail, 3, (Option.some Jvm.ClassFile.FieldType.int))
theorem cal_X9_sail : Cal m_X9_sail 2 := ⟨⟨by decide +kernel, by decide +kernel, by decide +kernel⟩, kw601, kw20⟩
abbrev m_X9_fire : MI := (yX9_fire, cX9_fire, 4, (Option.some Jvm.ClassFile.FieldType.int))
theorem cal_X9_fire : Cal m_X9_fire 3 := ⟨⟨by decide +kernel, by decide +kernel, by decide +kernel⟩, kw623, kw20⟩
abbrev m_X9_grapple : MI := (yX9_grapple, cX9_grapple, 3, (Option.some Jvm.ClassFile.FieldType.int))
theorem cal_X9_grapple : Cal m_X9_grapple 2 := ⟨⟨by decide +kernel, by decide +kernel, by decide +kernel⟩, kw646, kw20⟩
abbrev m_X9_cut : MI := (yX9_cut, cX9_cut, 2, (Option.some Jvm.ClassFile.FieldType.int))
theorem cal_X9_cut : Cal m_X9_cut 1 := ⟨⟨by decide +kernel, by decide +kernel, by decide +kernel⟩, kw659, kw20⟩
abbrev m_X9_repair : MI := (yX9_repair, cX9_repair, 3, (Option.some Jvm.ClassFile.FieldType.int))
theorem cal_X9_repair : Cal m_X9_repair 2 := ⟨⟨by decide +kernel, by decide +kernel, by decide +kernel⟩, kw667, kw20⟩
abbrev m_X9_end : MI := (yX9_end, cX9_end, 1, (Option.some Jvm.ClassFile.FieldType.int))
theorem cal_X9_end : Cal m_X9_end 0 := ⟨⟨by decide +kernel, by decide +kernel, by decide +kernel⟩, kw253, kw20⟩
abbrev m_X9_take : MI := (yX9_take, cX9_take, 2, (Option.some Jvm.ClassFile.FieldType.int))
theorem cal_X9_take : Cal m_X9_take 1 := ⟨⟨by decide +kernel, by decide +kernel, by decide +kernel⟩, kw310, kw20⟩
abbrev m_X9_restore : MI := (yX9_restore, cX9_restore, 2, (Option.some Jvm.ClassFile.FieldType.int))
theorem cal_X9_restore : Cal m_X9_restore 1 := ⟨⟨by decide +kernel, by decide +kernel, by decide +kernel⟩, kw326, kw20⟩
abbrev m_X9_undo : MI := (yX9_undo, cX9_undo, 1, (Option.some Jvm.ClassFile.FieldType.int))
theorem cal_X9_undo : Cal m_X9_undo 0 := ⟨⟨by decide +kernel, by decide +kernel, by decide +kernel⟩, kw334, kw20⟩
abbrev m_X9_count : MI := (yX9_count, cX9_count, 2, (Option.some Jvm.ClassFile.FieldType.int))
theorem cal_X9_count : Cal m_X9_count 1 := ⟨⟨by decide +kernel, by decide +kernel, by decide +kernel⟩, kw342, kw20⟩
abbrev m_X9_captain : MI := (yX9_captain, cX9_captain, 3, (Option.some Jvm.ClassFile.FieldType.int))
theorem cal_X9_captain : Cal m_X9_captain 2 := ⟨⟨by decide +kernel, by decide +kernel, by decide +kernel⟩, kw477, kw20⟩
abbrev m_X9_ship : MI := (yX9_ship, cX9_ship, 4, (Option.some Jvm.ClassFile.FieldType.int))
theorem cal_X9_ship : Cal m_X9_ship 2 := ⟨⟨by decide +kernel, by decide +kernel, by decide +kernel⟩, kw443, kw20⟩
abbrev m_X9_on : MI := (yX9_on, cX9_on, 2, (Option.some Jvm.ClassFile.FieldType.int))
theorem cal_X9_on : Cal m_X9_on 1 := ⟨⟨by decide +kernel, by decide +kernel, by decide +kernel⟩, kw414, kw20⟩
abbrev m_X9_targets : MI := (yX9_targets, cX9_targets, 4, (Option.some Jvm.ClassFile.FieldType.int))
theorem cal_X9_targets : Cal m_X9_targets 2 := ⟨⟨by decide +kernel, by decide +kernel, by decide +kernel⟩, kw493, kw20⟩
abbrev m_X9_hits : MI := (yX9_hits, cX9_hits, 7, (Option.some Jvm.ClassFile.FieldType.int))
theorem cal_X9_hits : Cal m_X9_hits 3 := ⟨⟨by decide +kernel, by decide +kernel, by decide +kernel⟩, kw574, kw20⟩
abbrev m_X9_way : MI := (yX9_way, cX9_way, 5, (Option.some Jvm.ClassFile.FieldType.int))
theorem cal_X9_way : Cal m_X9_way 3 := ⟨⟨by decide +kernel, by decide +kernel, by decide +kernel⟩, kw589, kw20⟩
abbrev m_X9_reach : MI := (yX9_reach, cX9_reach, 3, (Option.some Jvm.ClassFile.FieldType.int))
theorem cal_X9_reach : Cal m_X9_reach 1 := ⟨⟨by decide +kernel, by decide +kernel, by decide +kernel⟩, kw523, kw20⟩
abbrev m_X9_windBy : MI := (yX9_windBy, cX9_windBy, 4, (Option.some Jvm.ClassFile.FieldType.int))
theorem cal_X9_windBy : Cal m_X9_windBy 2 := ⟨⟨by decide +kernel, by decide +kernel, by decide +kernel⟩, kw682, kw20⟩
abbrev m_X9_threats : MI := (yX9_threats, cX9_threats, 3, (Option.some Jvm.ClassFile.FieldType.int))
theorem cal_X9_threats : Cal m_X9_threats 1 := ⟨⟨by decide +kernel, by decide +kernel, by decide +kernel⟩, kw563, kw20⟩
abbrev m_X9_strength : MI := (yX9_strength, cX9_strength, 2, (Option.some Jvm.ClassFile.FieldType.int))
theorem cal_X9_strength : Cal m_X9_strength 1 := ⟨⟨by decide +kernel, by decide +kernel, by decide +kernel⟩, kw380, kw20⟩
abbrev m_J6_bitCount_0f7a4 : MI := (yJ6_bitCount_0f7a4, cJ6_bitCount_0f7a4, 1, (Option.some Jvm.ClassFile.FieldType.int))
theorem cal_J6_bitCount_0f7a4 : Cal m_J6_bitCount_0f7a4 1 := ⟨⟨by decide +kernel, by decide +kernel, by decide +kernel⟩, kw345, kw29⟩
abbrev m_J9_max_7cf53 : MI := (yJ9_max_7cf53, cJ9_max_7cf53, 2, (Option.some Jvm.ClassFile.FieldType.int))
theorem cal_J9_max_7cf53 : Cal m_J9_max_7cf53 2 := ⟨⟨by decide +kernel, by decide +kernel, by decide +kernel⟩, kw291, kw31⟩
abbrev m_J9_min_7cf53 : MI := (yJ9_min_7cf53, cJ9_min_7cf53, 2, (Option.some Jvm.ClassFile.FieldType.int))
theorem cal_J9_min_7cf53 : Cal m_J9_min_7cf53 2 := ⟨⟨by decide +kernel, by decide +kernel, by decide +kernel⟩, kw306, kw31⟩
abbrev m_J7_fill_53178 : MI := (yJ7_fill_53178, cJ7_fill_53178, 4, (Option.none : Option Jvm.ClassFile.FieldType))
theorem cal_J7_fill_53178 : Cal m_J7_fill_53178 2 := ⟨⟨by decide +kernel, by decide +kernel, by decide +kernel⟩, kw531, kw32⟩
abbrev m_L_cell : MI := (yL_cell, cL_cell, 2, (Option.some Jvm.ClassFile.FieldType.int))
theorem cal_L_cell : Cal m_L_cell 2 := ⟨⟨by decide +kernel, by decide +kernel, by decide +kernel⟩, kw390, kw19⟩
abbrev m_L_lays : MI := (yL_lays, cL_lays, 9, (Option.some Jvm.ClassFile.FieldType.boolean))
theorem cal_L_lays : Cal m_L_lays 2 := ⟨⟨by decide +kernel, by decide +kernel, by decide +kernel⟩, kw395, kw19⟩
abbrev m_L_ones : MI := (yL_ones, cL_ones, 3, (Option.some Jvm.ClassFile.FieldType.int))
theorem cal_L_ones : Cal m_L_ones 1 := ⟨⟨by decide +kernel, by decide +kernel, by decide +kernel⟩, kw570, kw19⟩
abbrev m_L_isAll : MI := (yL_isAll, cL_isAll, 11, (Option.some Jvm.ClassFile.FieldType.boolean))
theorem cal_L_isAll : Cal m_L_isAll 1 := ⟨⟨by decide +kernel, by decide +kernel, by decide +kernel⟩, kw473, kw19⟩
abbrev m_L_isWay : MI := (yL_isWay, cL_isWay, 8, (Option.some Jvm.ClassFile.FieldType.boolean))
theorem cal_L_isWay : Cal m_L_isWay 3 := ⟨⟨by decide +kernel, by decide +kernel, by decide +kernel⟩, kw585, kw19⟩
abbrev m_L_acts : MI := (yL_acts, cL_acts, 10, (Option.some Jvm.ClassFile.FieldType.boolean))
theorem cal_L_acts : Cal m_L_acts 2 := ⟨⟨by decide +kernel, by decide +kernel, by decide +kernel⟩, kw582, kw19⟩
abbrev m_L_tells : MI := (yL_tells, cL_tells, 6, (Option.some Jvm.ClassFile.FieldType.boolean))
theorem cal_L_tells : Cal m_L_tells 2 := ⟨⟨by decide +kernel, by decide +kernel, by decide +kernel⟩, kw678, kw19⟩
theorem kwObjI : Cond.instanceMethod objectInit ∈ WSa := kw40
theorem kwObjC : Cond.code objectInit ⟨#[0xb1]⟩ 1 none ∈ WSa := kw41
def ob0 (A : Nat → Nat) (F : Nat → Int32) : List Value := [.int (F 0), .int (F 1), .int (F 2)]
theorem inXW0 : ∀ w ∈ u_ws RX0 TX0 3, w ∈ WSa := by
  intro w hw
  obtain ⟨k, hk, rfl⟩ := List.mem_map.mp hw
  have hk2 := List.mem_range.mp hk
  rcases (by omega : k = 0 ∨ k = 1 ∨ k = 2) with rfl | rfl | rfl
  · exact kw66
  · exact kw68
  · exact kw70
def ob1 (A : Nat → Nat) (F : Nat → Int32) : List Value := [.int (F 0), .int (F 1), .int (F 2), .int (F 3), .int (F 4), .int (F 5), .ref (A 6), .ref (A 7), .ref (A 8), .ref (A 9)]
theorem inXW1 : ∀ w ∈ u_ws RX1 TX1 10, w ∈ WSa := by
  intro w hw
  obtain ⟨k, hk, rfl⟩ := List.mem_map.mp hw
  have hk2 := List.mem_range.mp hk
  rcases (by omega : k = 0 ∨ k = 1 ∨ k = 2 ∨ k = 3 ∨ k = 4 ∨ k = 5 ∨ k = 6 ∨ k = 7 ∨ k = 8 ∨ k = 9) with rfl | rfl | rfl | rfl | rfl | rfl | rfl | rfl | rfl | rfl
  · exact kw140
  · exact kw142
  · exact kw144
  · exact kw146
  · exact kw148
  · exact kw150
  · exact kw152
  · exact kw154
  · exact kw156
  · exact kw158
def ob2 (A : Nat → Nat) (F : Nat → Int32) : List Value := [.ref (A 0), .ref (A 1), .int (F 2)]
theorem inXW2 : ∀ w ∈ u_ws RX3 TX3 3, w ∈ WSa := by
  intro w hw
  obtain ⟨k, hk, rfl⟩ := List.mem_map.mp hw
  have hk2 := List.mem_range.mp hk
  rcases (by omega : k = 0 ∨ k = 1 ∨ k = 2) with rfl | rfl | rfl
  · exact kw188
  · exact kw190
  · exact kw192
def ob3 (A : Nat → Nat) (F : Nat → Int32) : List Value := [.ref (A 0), .int (F 1), .int (F 2), .int (F 3), .int (F 4), .int (F 5), .int (F 6)]
theorem inXW3 : ∀ w ∈ u_ws RX4 TX4 7, w ∈ WSa := by
  intro w hw
  obtain ⟨k, hk, rfl⟩ := List.mem_map.mp hw
  have hk2 := List.mem_range.mp hk
  rcases (by omega : k = 0 ∨ k = 1 ∨ k = 2 ∨ k = 3 ∨ k = 4 ∨ k = 5 ∨ k = 6) with rfl | rfl | rfl | rfl | rfl | rfl | rfl
  · exact kw203
  · exact kw205
  · exact kw207
  · exact kw209
  · exact kw211
  · exact kw213
  · exact kw215
def ob4 (A : Nat → Nat) (F : Nat → Int32) : List Value := [.ref (A 0), .ref (A 1), .ref (A 2), .int (F 3)]
theorem inXW4 : ∀ w ∈ u_ws RX6 TX6 4, w ∈ WSa := by
  intro w hw
  obtain ⟨k, hk, rfl⟩ := List.mem_map.mp hw
  have hk2 := List.mem_range.mp hk
  rcases (by omega : k = 0 ∨ k = 1 ∨ k = 2 ∨ k = 3) with rfl | rfl | rfl | rfl
  · exact kw228
  · exact kw230
  · exact kw232
  · exact kw234
def ob5 (A : Nat → Nat) (F : Nat → Int32) : List Value := [.int (F 0), .int (F 1), .int (F 2), .int (F 3), .int (F 4), .int (F 5), .int (F 6), .int (F 7), .int (F 8), .int (F 9), .int (F 10), .int (F 11)]
theorem inXW5 : ∀ w ∈ u_ws RX7 TX7 12, w ∈ WSa := by
  intro w hw
  obtain ⟨k, hk, rfl⟩ := List.mem_map.mp hw
  have hk2 := List.mem_range.mp hk
  rcases (by omega : k = 0 ∨ k = 1 ∨ k = 2 ∨ k = 3 ∨ k = 4 ∨ k = 5 ∨ k = 6 ∨ k = 7 ∨ k = 8 ∨ k = 9 ∨ k = 10 ∨ k = 11) with rfl | rfl | rfl | rfl | rfl | rfl | rfl | rfl | rfl | rfl | rfl | rfl
  · exact kw104
  · exact kw106
  · exact kw108
  · exact kw110
  · exact kw112
  · exact kw114
  · exact kw116
  · exact kw118
  · exact kw120
  · exact kw122
  · exact kw124
  · exact kw126
def ob6 (A : Nat → Nat) (F : Nat → Int32) : List Value := [.ref (A 0), .ref (A 1), .ref (A 2), .int (F 3)]
theorem inXW6 : ∀ w ∈ u_ws RX8 TX8 4, w ∈ WSa := by
  intro w hw
  obtain ⟨k, hk, rfl⟩ := List.mem_map.mp hw
  have hk2 := List.mem_range.mp hk
  rcases (by omega : k = 0 ∨ k = 1 ∨ k = 2 ∨ k = 3) with rfl | rfl | rfl | rfl
  · exact kw167
  · exact kw169
  · exact kw171
  · exact kw173
def ob7 (A : Nat → Nat) (F : Nat → Int32) : List Value := [.ref (A 0), .ref (A 1), .ref (A 2), .ref (A 3)]
theorem inXW7 : ∀ w ∈ u_ws RX9 TX9 4, w ∈ WSa := by
  intro w hw
  obtain ⟨k, hk, rfl⟩ := List.mem_map.mp hw
  have hk2 := List.mem_range.mp hk
  rcases (by omega : k = 0 ∨ k = 1 ∨ k = 2 ∨ k = 3) with rfl | rfl | rfl | rfl
  · exact kw241
  · exact kw243
  · exact kw245
  · exact kw247
theorem sw_q (x : Int32) (v : Int32) (n : Int) (h : v.toInt = n) : x = v ↔ x.toInt = n := by
  rw [← h]
  exact ⟨fun e => by rw [e], fun e => Int32.toInt_inj.mp e⟩
theorem nar_z {x : Int32} (h : x = 0 ∨ x = 1) : narrow .boolean (.int x) = .int x := by
  rcases h with rfl | rfl <;> rfl
theorem fits_z {x : Int32} (h : x = 0 ∨ x = 1) : fits .boolean (.int x) = true := by
  rcases h with rfl | rfl <;> rfl
section FR
variable {l : Launch} {D : va_G} {cA : Nat → ClassId} {N0 : Nat} {own : String} {cc : ByteArray} {nL : Nat} {ret : Option FieldType} {nm : String} {R : Room} {X : State → Prop} {F : List Frame → Array Value → State → State → Prop} {h : AH} {k n pc : Nat} {L : List (Option Value)} {st : List Value}
theorem G_X9_10 {a : Nat} {A : Nat → Nat} {Fv : Nat → Int32} (hd : decode cc pc = .ok (.getfield 10, 3)) (ha : h.2 a = some (.inr (7, ob7 A Fv))) (kk : Run l D cA N0 RX9 cc nL ret nm R X F h k n (pc + 3) L (.ref (A 0) :: st)) : Run l D cA N0 RX9 cc nL ret nm R X F h k n (pc) L (.ref a :: st) := R_get (T := TX9) (ci := 7) (i := 0) hd kw237 rfl inXW7 (by decide) ha rfl kk
theorem GN_X9_10 {a : Nat} {fs : List Value} {v : Value} (hd : decode cc pc = .ok (.getfield 10, 3)) (ha : h.2 a = some (.inr (7, fs))) (hv : fs[0]? = some v) (kk : Run l D cA N0 RX9 cc nL ret nm R X F h k n (pc + 3) L (v :: st)) : Run l D cA N0 RX9 cc nL ret nm R X F h k n (pc) L (.ref a :: st) := R_get (T := TX9) (ci := 7) (i := 0) hd kw237 rfl inXW7 (by decide) ha hv kk
theorem PN_X9_10 {a : Nat} {b : Nat} {fs : List Value} (hd : decode cc pc = .ok (.putfield 10, 3)) (hnm : nm = "<init>") (hl : 0 < fs.length) (ha : h.2 a = some (.inr (7, fs))) (kk : ∀ h1 : AH, h1 = hput h a (.inr (7, fs.set 0 (.ref b))) → h1.2 a = some (.inr (7, fs.set 0 (.ref b))) → Run l D cA N0 RX9 cc nL ret nm R X F h1 k n (pc + 3) L (st)) : Run l D cA N0 RX9 cc nL ret nm R X F h k n (pc) L (.ref b :: .ref a :: st) := R_putF (T := TX9) (ci := 7) (i := 0) (ty := tyX9) hd kw237 rfl inXW7 tyX9_ok nmX9 (by decide) rfl hnm rfl rfl rfl ha hl (kk _ rfl (hput_at h a _))
theorem G_X9_19 {a : Nat} {A : Nat → Nat} {Fv : Nat → Int32} (hd : decode cc pc = .ok (.getfield 19, 3)) (ha : h.2 a = some (.inr (7, ob7 A Fv))) (kk : Run l D cA N0 RX9 cc nL ret nm R X F h k n (pc + 3) L (.ref (A 1) :: st)) : Run l D cA N0 RX9 cc nL ret nm R X F h k n (pc) L (.ref a :: st) := R_get (T := TX9) (ci := 7) (i := 1) hd kw238 rfl inXW7 (by decide) ha rfl kk
theorem GN_X9_19 {a : Nat} {fs : List Value} {v : Value} (hd : decode cc pc = .ok (.getfield 19, 3)) (ha : h.2 a = some (.inr (7, fs))) (hv : fs[1]? = some v) (kk : Run l D cA N0 RX9 cc nL ret nm R X F h k n (pc + 3) L (v :: st)) : Run l D cA N0 RX9 cc nL ret nm R X F h k n (pc) L (.ref a :: st) := R_get (T := TX9) (ci := 7) (i := 1) hd kw238 rfl inXW7 (by decide) ha hv kk
theorem PN_X9_19 {a : Nat} {b : Nat} {fs : List Value} (hd : decode cc pc = .ok (.putfield 19, 3)) (hnm : nm = "<init>") (hl : 1 < fs.length) (ha : h.2 a = some (.inr (7, fs))) (kk : ∀ h1 : AH, h1 = hput h a (.inr (7, fs.set 1 (.ref b))) → h1.2 a = some (.inr (7, fs.set 1 (.ref b))) → Run l D cA N0 RX9 cc nL ret nm R X F h1 k n (pc + 3) L (st)) : Run l D cA N0 RX9 cc nL ret nm R X F h k n (pc) L (.ref b :: .ref a :: st) := R_putF (T := TX9) (ci := 7) (i := 1) (ty := tyX9) hd kw238 rfl inXW7 tyX9_ok nmX9 (by decide) rfl hnm rfl rfl rfl ha hl (kk _ rfl (hput_at h a _))
theorem G_X9_26 {a : Nat} {A : Nat → Nat} {Fv : Nat → Int32} (hd : decode cc pc = .ok (.getfield 26, 3)) (ha : h.2 a = some (.inr (7, ob7 A Fv))) (kk : Run l D cA N0 RX9 cc nL ret nm R X F h k n (pc + 3) L (.ref (A 2) :: st)) : Run l D cA N0 RX9 cc nL ret nm R X F h k n (pc) L (.ref a :: st) := R_get (T := TX9) (ci := 7) (i := 2) hd kw239 rfl inXW7 (by decide) ha rfl kk
theorem GN_X9_26 {a : Nat} {fs : List Value} {v : Value} (hd : decode cc pc = .ok (.getfield 26, 3)) (ha : h.2 a = some (.inr (7, fs))) (hv : fs[2]? = some v) (kk : Run l D cA N0 RX9 cc nL ret nm R X F h k n (pc + 3) L (v :: st)) : Run l D cA N0 RX9 cc nL ret nm R X F h k n (pc) L (.ref a :: st) := R_get (T := TX9) (ci := 7) (i := 2) hd kw239 rfl inXW7 (by decide) ha hv kk
theorem PN_X9_26 {a : Nat} {b : Nat} {fs : List Value} (hd : decode cc pc = .ok (.putfield 26, 3)) (hnm : nm = "<init>") (hl : 2 < fs.length) (ha : h.2 a = some (.inr (7, fs))) (kk : ∀ h1 : AH, h1 = hput h a (.inr (7, fs.set 2 (.ref b))) → h1.2 a = some (.inr (7, fs.set 2 (.ref b))) → Run l D cA N0 RX9 cc nL ret nm R X F h1 k n (pc + 3) L (st)) : Run l D cA N0 RX9 cc nL ret nm R X F h k n (pc) L (.ref b :: .ref a :: st) := R_putF (T := TX9) (ci := 7) (i := 2) (ty := tyX9) hd kw239 rfl inXW7 tyX9_ok nmX9 (by decide) rfl hnm rfl rfl rfl ha hl (kk _ rfl (hput_at h a _))
theorem G_X9_33 {a : Nat} {A : Nat → Nat} {Fv : Nat → Int32} (hd : decode cc pc = .ok (.getfield 33, 3)) (ha : h.2 a = some (.inr (7, ob7 A Fv))) (kk : Run l D cA N0 RX9 cc nL ret nm R X F h k n (pc + 3) L (.ref (A 3) :: st)) : Run l D cA N0 RX9 cc nL ret nm R X F h k n (pc) L (.ref a :: st) := R_get (T := TX9) (ci := 7) (i := 3) hd kw240 rfl inXW7 (by decide) ha rfl kk
theorem GN_X9_33 {a : Nat} {fs : List Value} {v : Value} (hd : decode cc pc = .ok (.getfield 33, 3)) (ha : h.2 a = some (.inr (7, fs))) (hv : fs[3]? = some v) (kk : Run l D cA N0 RX9 cc nL ret nm R X F h k n (pc + 3) L (v :: st)) : Run l D cA N0 RX9 cc nL ret nm R X F h k n (pc) L (.ref a :: st) := R_get (T := TX9) (ci := 7) (i := 3) hd kw240 rfl inXW7 (by decide) ha hv kk
theorem PN_X9_33 {a : Nat} {b : Nat} {fs : List Value} (hd : decode cc pc = .ok (.putfield 33, 3)) (hnm : nm = "<init>") (hl : 3 < fs.length) (ha : h.2 a = some (.inr (7, fs))) (kk : ∀ h1 : AH, h1 = hput h a (.inr (7, fs.set 3 (.ref b))) → h1.2 a = some (.inr (7, fs.set 3 (.ref b))) → Run l D cA N0 RX9 cc nL ret nm R X F h1 k n (pc + 3) L (st)) : Run l D cA N0 RX9 cc nL ret nm R X F h k n (pc) L (.ref b :: .ref a :: st) := R_putF (T := TX9) (ci := 7) (i := 3) (ty := tyX9) hd kw240 rfl inXW7 tyX9_ok nmX9 (by decide) rfl hnm rfl rfl rfl ha hl (kk _ rfl (hput_at h a _))
theorem G_X9_41 {a : Nat} {A : Nat → Nat} {Fv : Nat → Int32} (hd : decode cc pc = .ok (.getfield 41, 3)) (ha : h.2 a = some (.inr (6, ob6 A Fv))) (kk : Run l D cA N0 RX9 cc nL ret nm R X F h k n (pc + 3) L (.ref (A 0) :: st)) : Run l D cA N0 RX9 cc nL ret nm R X F h k n (pc) L (.ref a :: st) := R_get (T := TX8) (ci := 6) (i := 0) hd kw162 rfl inXW6 (by decide) ha rfl kk
theorem GN_X9_41 {a : Nat} {fs : List Value} {v : Value} (hd : decode cc pc = .ok (.getfield 41, 3)) (ha : h.2 a = some (.inr (6, fs))) (hv : fs[0]? = some v) (kk : Run l D cA N0 RX9 cc nL ret nm R X F h k n (pc + 3) L (v :: st)) : Run l D cA N0 RX9 cc nL ret nm R X F h k n (pc) L (.ref a :: st) := R_get (T := TX8) (ci := 6) (i := 0) hd kw162 rfl inXW6 (by decide) ha hv kk
theorem G_X9_118 {a : Nat} {A : Nat → Nat} {Fv : Nat → Int32} (hd : decode cc pc = .ok (.getfield 118, 3)) (ha : h.2 a = some (.inr (6, ob6 A Fv))) (kk : Run l D cA N0 RX9 cc nL ret nm R X F h k n (pc + 3) L (.int (Fv 3) :: st)) : Run l D cA N0 RX9 cc nL ret nm R X F h k n (pc) L (.ref a :: st) := R_get (T := TX8) (ci := 6) (i := 3) hd kw166 rfl inXW6 (by decide) ha rfl kk
theorem GN_X9_118 {a : Nat} {fs : List Value} {v : Value} (hd : decode cc pc = .ok (.getfield 118, 3)) (ha : h.2 a = some (.inr (6, fs))) (hv : fs[3]? = some v) (kk : Run l D cA N0 RX9 cc nL ret nm R X F h k n (pc + 3) L (v :: st)) : Run l D cA N0 RX9 cc nL ret nm R X F h k n (pc) L (.ref a :: st) := R_get (T := TX8) (ci := 6) (i := 3) hd kw166 rfl inXW6 (by decide) ha hv kk
theorem P_X9_118 {a : Nat} {A : Nat → Nat} {Fv : Nat → Int32} {x : Int32} (hd : decode cc pc = .ok (.putfield 118, 3)) (ha : h.2 a = some (.inr (6, ob6 A Fv))) (kk : ∀ h1 : AH, h1 = hput h a (.inr (6, ob6 A (upd Fv 3 x))) → h1.2 a = some (.inr (6, ob6 A (upd Fv 3 x))) → Run l D cA N0 RX9 cc nL ret nm R X F h1 k n (pc + 3) L (st)) : Run l D cA N0 RX9 cc nL ret nm R X F h k n (pc) L (.int x :: .ref a :: st) := R_put (T := TX8) (ci := 6) (i := 3) (ty := tyX8) hd kw166 rfl inXW6 tyX8_ok nmX8 (by decide) rfl rfl rfl ha (show 3 < 4 by decide) (kk _ rfl (hput_at h a _))
theorem PN_X9_118 {a : Nat} {fs : List Value} {x : Int32} (hd : decode cc pc = .ok (.putfield 118, 3)) (hl : 3 < fs.length) (ha : h.2 a = some (.inr (6, fs))) (kk : ∀ h1 : AH, h1 = hput h a (.inr (6, fs.set 3 (.int x))) → h1.2 a = some (.inr (6, fs.set 3 (.int x))) → Run l D cA N0 RX9 cc nL ret nm R X F h1 k n (pc + 3) L (st)) : Run l D cA N0 RX9 cc nL ret nm R X F h k n (pc) L (.int x :: .ref a :: st) := R_put (T := TX8) (ci := 6) (i := 3) (ty := tyX8) hd kw166 rfl inXW6 tyX8_ok nmX8 (by decide) rfl rfl rfl ha hl (kk _ rfl (hput_at h a _))
theorem G_X0_11 {a : Nat} {A : Nat → Nat} {Fv : Nat → Int32} (hd : decode cc pc = .ok (.getfield 11, 3)) (ha : h.2 a = some (.inr (0, ob0 A Fv))) (kk : Run l D cA N0 RX0 cc nL ret nm R X F h k n (pc + 3) L (.int (Fv 0) :: st)) : Run l D cA N0 RX0 cc nL ret nm R X F h k n (pc) L (.ref a :: st) := R_get (T := TX0) (ci := 0) (i := 0) hd kw60 rfl inXW0 (by decide) ha rfl kk
theorem GN_X0_11 {a : Nat} {fs : List Value} {v : Value} (hd : decode cc pc = .ok (.getfield 11, 3)) (ha : h.2 a = some (.inr (0, fs))) (hv : fs[0]? = some v) (kk : Run l D cA N0 RX0 cc nL ret nm R X F h k n (pc + 3) L (v :: st)) : Run l D cA N0 RX0 cc nL ret nm R X F h k n (pc) L (.ref a :: st) := R_get (T := TX0) (ci := 0) (i := 0) hd kw60 rfl inXW0 (by decide) ha hv kk
theorem P_X0_11 {a : Nat} {A : Nat → Nat} {Fv : Nat → Int32} {x : Int32} (hd : decode cc pc = .ok (.putfield 11, 3)) (ha : h.2 a = some (.inr (0, ob0 A Fv))) (kk : ∀ h1 : AH, h1 = hput h a (.inr (0, ob0 A (upd Fv 0 x))) → h1.2 a = some (.inr (0, ob0 A (upd Fv 0 x))) → Run l D cA N0 RX0 cc nL ret nm R X F h1 k n (pc + 3) L (st)) : Run l D cA N0 RX0 cc nL ret nm R X F h k n (pc) L (.int x :: .ref a :: st) := R_put (T := TX0) (ci := 0) (i := 0) (ty := tyX0) hd kw60 rfl inXW0 tyX0_ok nmX0 (by decide) rfl rfl rfl ha (show 0 < 3 by decide) (kk _ rfl (hput_at h a _))
theorem PN_X0_11 {a : Nat} {fs : List Value} {x : Int32} (hd : decode cc pc = .ok (.putfield 11, 3)) (hl : 0 < fs.length) (ha : h.2 a = some (.inr (0, fs))) (kk : ∀ h1 : AH, h1 = hput h a (.inr (0, fs.set 0 (.int x))) → h1.2 a = some (.inr (0, fs.set 0 (.int x))) → Run l D cA N0 RX0 cc nL ret nm R X F h1 k n (pc + 3) L (st)) : Run l D cA N0 RX0 cc nL ret nm R X F h k n (pc) L (.int x :: .ref a :: st) := R_put (T := TX0) (ci := 0) (i := 0) (ty := tyX0) hd kw60 rfl inXW0 tyX0_ok nmX0 (by decide) rfl rfl rfl ha hl (kk _ rfl (hput_at h a _))
theorem G_X0_15 {a : Nat} {A : Nat → Nat} {Fv : Nat → Int32} (hd : decode cc pc = .ok (.getfield 15, 3)) (ha : h.2 a = some (.inr (0, ob0 A Fv))) (kk : Run l D cA N0 RX0 cc nL ret nm R X F h k n (pc + 3) L (.int (Fv 1) :: st)) : Run l D cA N0 RX0 cc nL ret nm R X F h k n (pc) L (.ref a :: st) := R_get (T := TX0) (ci := 0) (i := 1) hd kw62 rfl inXW0 (by decide) ha rfl kk
theorem GN_X0_15 {a : Nat} {fs : List Value} {v : Value} (hd : decode cc pc = .ok (.getfield 15, 3)) (ha : h.2 a = some (.inr (0, fs))) (hv : fs[1]? = some v) (kk : Run l D cA N0 RX0 cc nL ret nm R X F h k n (pc + 3) L (v :: st)) : Run l D cA N0 RX0 cc nL ret nm R X F h k n (pc) L (.ref a :: st) := R_get (T := TX0) (ci := 0) (i := 1) hd kw62 rfl inXW0 (by decide) ha hv kk
theorem P_X0_15 {a : Nat} {A : Nat → Nat} {Fv : Nat → Int32} {x : Int32} (hd : decode cc pc = .ok (.putfield 15, 3)) (ha : h.2 a = some (.inr (0, ob0 A Fv))) (kk : ∀ h1 : AH, h1 = hput h a (.inr (0, ob0 A (upd Fv 1 x))) → h1.2 a = some (.inr (0, ob0 A (upd Fv 1 x))) → Run l D cA N0 RX0 cc nL ret nm R X F h1 k n (pc + 3) L (st)) : Run l D cA N0 RX0 cc nL ret nm R X F h k n (pc) L (.int x :: .ref a :: st) := R_put (T := TX0) (ci := 0) (i := 1) (ty := tyX0) hd kw62 rfl inXW0 tyX0_ok nmX0 (by decide) rfl rfl rfl ha (show 1 < 3 by decide) (kk _ rfl (hput_at h a _))
theorem PN_X0_15 {a : Nat} {fs : List Value} {x : Int32} (hd : decode cc pc = .ok (.putfield 15, 3)) (hl : 1 < fs.length) (ha : h.2 a = some (.inr (0, fs))) (kk : ∀ h1 : AH, h1 = hput h a (.inr (0, fs.set 1 (.int x))) → h1.2 a = some (.inr (0, fs.set 1 (.int x))) → Run l D cA N0 RX0 cc nL ret nm R X F h1 k n (pc + 3) L (st)) : Run l D cA N0 RX0 cc nL ret nm R X F h k n (pc) L (.int x :: .ref a :: st) := R_put (T := TX0) (ci := 0) (i := 1) (ty := tyX0) hd kw62 rfl inXW0 tyX0_ok nmX0 (by decide) rfl rfl rfl ha hl (kk _ rfl (hput_at h a _))
theorem G_X0_18 {a : Nat} {A : Nat → Nat} {Fv : Nat → Int32} (hd : decode cc pc = .ok (.getfield 18, 3)) (ha : h.2 a = some (.inr (0, ob0 A Fv))) (kk : Run l D cA N0 RX0 cc nL ret nm R X F h k n (pc + 3) L (.int (Fv 2) :: st)) : Run l D cA N0 RX0 cc nL ret nm R X F h k n (pc) L (.ref a :: st) := R_get (T := TX0) (ci := 0) (i := 2) hd kw64 rfl inXW0 (by decide) ha rfl kk
theorem GN_X0_18 {a : Nat} {fs : List Value} {v : Value} (hd : decode cc pc = .ok (.getfield 18, 3)) (ha : h.2 a = some (.inr (0, fs))) (hv : fs[2]? = some v) (kk : Run l D cA N0 RX0 cc nL ret nm R X F h k n (pc + 3) L (v :: st)) : Run l D cA N0 RX0 cc nL ret nm R X F h k n (pc) L (.ref a :: st) := R_get (T := TX0) (ci := 0) (i := 2) hd kw64 rfl inXW0 (by decide) ha hv kk
theorem P_X0_18 {a : Nat} {A : Nat → Nat} {Fv : Nat → Int32} {x : Int32} (hd : decode cc pc = .ok (.putfield 18, 3)) (ha : h.2 a = some (.inr (0, ob0 A Fv))) (kk : ∀ h1 : AH, h1 = hput h a (.inr (0, ob0 A (upd Fv 2 x))) → h1.2 a = some (.inr (0, ob0 A (upd Fv 2 x))) → Run l D cA N0 RX0 cc nL ret nm R X F h1 k n (pc + 3) L (st)) : Run l D cA N0 RX0 cc nL ret nm R X F h k n (pc) L (.int x :: .ref a :: st) := R_put (T := TX0) (ci := 0) (i := 2) (ty := tyX0) hd kw64 rfl inXW0 tyX0_ok nmX0 (by decide) rfl rfl rfl ha (show 2 < 3 by decide) (kk _ rfl (hput_at h a _))
theorem PN_X0_18 {a : Nat} {fs : List Value} {x : Int32} (hd : decode cc pc = .ok (.putfield 18, 3)) (hl : 2 < fs.length) (ha : h.2 a = some (.inr (0, fs))) (kk : ∀ h1 : AH, h1 = hput h a (.inr (0, fs.set 2 (.int x))) → h1.2 a = some (.inr (0, fs.set 2 (.int x))) → Run l D cA N0 RX0 cc nL ret nm R X F h1 k n (pc + 3) L (st)) : Run l D cA N0 RX0 cc nL ret nm R X F h k n (pc) L (.int x :: .ref a :: st) := R_put (T := TX0) (ci := 0) (i := 2) (ty := tyX0) hd kw64 rfl inXW0 tyX0_ok nmX0 (by decide) rfl rfl rfl ha hl (kk _ rfl (hput_at h a _))
theorem G_X1_9 {a : Nat} {A : Nat → Nat} {Fv : Nat → Int32} (hd : decode cc pc = .ok (.getfield 9, 3)) (ha : h.2 a = some (.inr (1, ob1 A Fv))) (kk : Run l D cA N0 RX1 cc nL ret nm R X F h k n (pc + 3) L (.int (Fv 3) :: st)) : Run l D cA N0 RX1 cc nL ret nm R X F h k n (pc) L (.ref a :: st) := R_get (T := TX1) (ci := 1) (i := 3) hd kw133 rfl inXW1 (by decide) ha rfl kk
theorem GN_X1_9 {a : Nat} {fs : List Value} {v : Value} (hd : decode cc pc = .ok (.getfield 9, 3)) (ha : h.2 a = some (.inr (1, fs))) (hv : fs[3]? = some v) (kk : Run l D cA N0 RX1 cc nL ret nm R X F h k n (pc + 3) L (v :: st)) : Run l D cA N0 RX1 cc nL ret nm R X F h k n (pc) L (.ref a :: st) := R_get (T := TX1) (ci := 1) (i := 3) hd kw133 rfl inXW1 (by decide) ha hv kk
theorem P_X1_9 {a : Nat} {A : Nat → Nat} {Fv : Nat → Int32} {x : Int32} (hd : decode cc pc = .ok (.putfield 9, 3)) (ha : h.2 a = some (.inr (1, ob1 A Fv))) (kk : ∀ h1 : AH, h1 = hput h a (.inr (1, ob1 A (upd Fv 3 x))) → h1.2 a = some (.inr (1, ob1 A (upd Fv 3 x))) → Run l D cA N0 RX1 cc nL ret nm R X F h1 k n (pc + 3) L (st)) : Run l D cA N0 RX1 cc nL ret nm R X F h k n (pc) L (.int x :: .ref a :: st) := R_put (T := TX1) (ci := 1) (i := 3) (ty := tyX1) hd kw133 rfl inXW1 tyX1_ok nmX1 (by decide) rfl rfl rfl ha (show 3 < 10 by decide) (kk _ rfl (hput_at h a _))
theorem PN_X1_9 {a : Nat} {fs : List Value} {x : Int32} (hd : decode cc pc = .ok (.putfield 9, 3)) (hl : 3 < fs.length) (ha : h.2 a = some (.inr (1, fs))) (kk : ∀ h1 : AH, h1 = hput h a (.inr (1, fs.set 3 (.int x))) → h1.2 a = some (.inr (1, fs.set 3 (.int x))) → Run l D cA N0 RX1 cc nL ret nm R X F h1 k n (pc + 3) L (st)) : Run l D cA N0 RX1 cc nL ret nm R X F h k n (pc) L (.int x :: .ref a :: st) := R_put (T := TX1) (ci := 1) (i := 3) (ty := tyX1) hd kw133 rfl inXW1 tyX1_ok nmX1 (by decide) rfl rfl rfl ha hl (kk _ rfl (hput_at h a _))
theorem G_X1_18 {a : Nat} {A : Nat → Nat} {Fv : Nat → Int32} (hd : decode cc pc = .ok (.getfield 18, 3)) (ha : h.2 a = some (.inr (1, ob1 A Fv))) (kk : Run l D cA N0 RX1 cc nL ret nm R X F h k n (pc + 3) L (.ref (A 6) :: st)) : Run l D cA N0 RX1 cc nL ret nm R X F h k n (pc) L (.ref a :: st) := R_get (T := TX1) (ci := 1) (i := 6) hd kw136 rfl inXW1 (by decide) ha rfl kk
theorem GN_X1_18 {a : Nat} {fs : List Value} {v : Value} (hd : decode cc pc = .ok (.getfield 18, 3)) (ha : h.2 a = some (.inr (1, fs))) (hv : fs[6]? = some v) (kk : Run l D cA N0 RX1 cc nL ret nm R X F h k n (pc + 3) L (v :: st)) : Run l D cA N0 RX1 cc nL ret nm R X F h k n (pc) L (.ref a :: st) := R_get (T := TX1) (ci := 1) (i := 6) hd kw136 rfl inXW1 (by decide) ha hv kk
theorem PN_X1_18 {a : Nat} {b : Nat} {fs : List Value} (hd : decode cc pc = .ok (.putfield 18, 3)) (hnm : nm = "<init>") (hl : 6 < fs.length) (ha : h.2 a = some (.inr (1, fs))) (kk : ∀ h1 : AH, h1 = hput h a (.inr (1, fs.set 6 (.ref b))) → h1.2 a = some (.inr (1, fs.set 6 (.ref b))) → Run l D cA N0 RX1 cc nL ret nm R X F h1 k n (pc + 3) L (st)) : Run l D cA N0 RX1 cc nL ret nm R X F h k n (pc) L (.ref b :: .ref a :: st) := R_putF (T := TX1) (ci := 1) (i := 6) (ty := tyX1) hd kw136 rfl inXW1 tyX1_ok nmX1 (by decide) rfl hnm rfl rfl rfl ha hl (kk _ rfl (hput_at h a _))
theorem G_X1_22 {a : Nat} {A : Nat → Nat} {Fv : Nat → Int32} (hd : decode cc pc = .ok (.getfield 22, 3)) (ha : h.2 a = some (.inr (1, ob1 A Fv))) (kk : Run l D cA N0 RX1 cc nL ret nm R X F h k n (pc + 3) L (.ref (A 7) :: st)) : Run l D cA N0 RX1 cc nL ret nm R X F h k n (pc) L (.ref a :: st) := R_get (T := TX1) (ci := 1) (i := 7) hd kw137 rfl inXW1 (by decide) ha rfl kk
theorem GN_X1_22 {a : Nat} {fs : List Value} {v : Value} (hd : decode cc pc = .ok (.getfield 22, 3)) (ha : h.2 a = some (.inr (1, fs))) (hv : fs[7]? = some v) (kk : Run l D cA N0 RX1 cc nL ret nm R X F h k n (pc + 3) L (v :: st)) : Run l D cA N0 RX1 cc nL ret nm R X F h k n (pc) L (.ref a :: st) := R_get (T := TX1) (ci := 1) (i := 7) hd kw137 rfl inXW1 (by decide) ha hv kk
theorem PN_X1_22 {a : Nat} {b : Nat} {fs : List Value} (hd : decode cc pc = .ok (.putfield 22, 3)) (hnm : nm = "<init>") (hl : 7 < fs.length) (ha : h.2 a = some (.inr (1, fs))) (kk : ∀ h1 : AH, h1 = hput h a (.inr (1, fs.set 7 (.ref b))) → h1.2 a = some (.inr (1, fs.set 7 (.ref b))) → Run l D cA N0 RX1 cc nL ret nm R X F h1 k n (pc + 3) L (st)) : Run l D cA N0 RX1 cc nL ret nm R X F h k n (pc) L (.ref b :: .ref a :: st) := R_putF (T := TX1) (ci := 1) (i := 7) (ty := tyX1) hd kw137 rfl inXW1 tyX1_ok nmX1 (by decide) rfl hnm rfl rfl rfl ha hl (kk _ rfl (hput_at h a _))
theorem G_X1_27 {a : Nat} {A : Nat → Nat} {Fv : Nat → Int32} (hd : decode cc pc = .ok (.getfield 27, 3)) (ha : h.2 a = some (.inr (1, ob1 A Fv))) (kk : Run l D cA N0 RX1 cc nL ret nm R X F h k n (pc + 3) L (.ref (A 8) :: st)) : Run l D cA N0 RX1 cc nL ret nm R X F h k n (pc) L (.ref a :: st) := R_get (T := TX1) (ci := 1) (i := 8) hd kw138 rfl inXW1 (by decide) ha rfl kk
theorem GN_X1_27 {a : Nat} {fs : List Value} {v : Value} (hd : decode cc pc = .ok (.getfield 27, 3)) (ha : h.2 a = some (.inr (1, fs))) (hv : fs[8]? = some v) (kk : Run l D cA N0 RX1 cc nL ret nm R X F h k n (pc + 3) L (v :: st)) : Run l D cA N0 RX1 cc nL ret nm R X F h k n (pc) L (.ref a :: st) := R_get (T := TX1) (ci := 1) (i := 8) hd kw138 rfl inXW1 (by decide) ha hv kk
theorem PN_X1_27 {a : Nat} {b : Nat} {fs : List Value} (hd : decode cc pc = .ok (.putfield 27, 3)) (hnm : nm = "<init>") (hl : 8 < fs.length) (ha : h.2 a = some (.inr (1, fs))) (kk : ∀ h1 : AH, h1 = hput h a (.inr (1, fs.set 8 (.ref b))) → h1.2 a = some (.inr (1, fs.set 8 (.ref b))) → Run l D cA N0 RX1 cc nL ret nm R X F h1 k n (pc + 3) L (st)) : Run l D cA N0 RX1 cc nL ret nm R X F h k n (pc) L (.ref b :: .ref a :: st) := R_putF (T := TX1) (ci := 1) (i := 8) (ty := tyX1) hd kw138 rfl inXW1 tyX1_ok nmX1 (by decide) rfl hnm rfl rfl rfl ha hl (kk _ rfl (hput_at h a _))
theorem G_X1_33 {a : Nat} {A : Nat → Nat} {Fv : Nat → Int32} (hd : decode cc pc = .ok (.getfield 33, 3)) (ha : h.2 a = some (.inr (1, ob1 A Fv))) (kk : Run l D cA N0 RX1 cc nL ret nm R X F h k n (pc + 3) L (.ref (A 9) :: st)) : Run l D cA N0 RX1 cc nL ret nm R X F h k n (pc) L (.ref a :: st) := R_get (T := TX1) (ci := 1) (i := 9) hd kw139 rfl inXW1 (by decide) ha rfl kk
theorem GN_X1_33 {a : Nat} {fs : List Value} {v : Value} (hd : decode cc pc = .ok (.getfield 33, 3)) (ha : h.2 a = some (.inr (1, fs))) (hv : fs[9]? = some v) (kk : Run l D cA N0 RX1 cc nL ret nm R X F h k n (pc + 3) L (v :: st)) : Run l D cA N0 RX1 cc nL ret nm R X F h k n (pc) L (.ref a :: st) := R_get (T := TX1) (ci := 1) (i := 9) hd kw139 rfl inXW1 (by decide) ha hv kk
theorem PN_X1_33 {a : Nat} {b : Nat} {fs : List Value} (hd : decode cc pc = .ok (.putfield 33, 3)) (hnm : nm = "<init>") (hl : 9 < fs.length) (ha : h.2 a = some (.inr (1, fs))) (kk : ∀ h1 : AH, h1 = hput h a (.inr (1, fs.set 9 (.ref b))) → h1.2 a = some (.inr (1, fs.set 9 (.ref b))) → Run l D cA N0 RX1 cc nL ret nm R X F h1 k n (pc + 3) L (st)) : Run l D cA N0 RX1 cc nL ret nm R X F h k n (pc) L (.ref b :: .ref a :: st) := R_putF (T := TX1) (ci := 1) (i := 9) (ty := tyX1) hd kw139 rfl inXW1 tyX1_ok nmX1 (by decide) rfl hnm rfl rfl rfl ha hl (kk _ rfl (hput_at h a _))
theorem G_X1_40 {a : Nat} {A : Nat → Nat} {Fv : Nat → Int32} (hd : decode cc pc = .ok (.getfield 40, 3)) (ha : h.2 a = some (.inr (1, ob1 A Fv))) (kk : Run l D cA N0 RX1 cc nL ret nm R X F h k n (pc + 3) L (.int (Fv 0) :: st)) : Run l D cA N0 RX1 cc nL ret nm R X F h k n (pc) L (.ref a :: st) := R_get (T := TX1) (ci := 1) (i := 0) hd kw130 rfl inXW1 (by decide) ha rfl kk
theorem GN_X1_40 {a : Nat} {fs : List Value} {v : Value} (hd : decode cc pc = .ok (.getfield 40, 3)) (ha : h.2 a = some (.inr (1, fs))) (hv : fs[0]? = some v) (kk : Run l D cA N0 RX1 cc nL ret nm R X F h k n (pc + 3) L (v :: st)) : Run l D cA N0 RX1 cc nL ret nm R X F h k n (pc) L (.ref a :: st) := R_get (T := TX1) (ci := 1) (i := 0) hd kw130 rfl inXW1 (by decide) ha hv kk
theorem P_X1_40 {a : Nat} {A : Nat → Nat} {Fv : Nat → Int32} {x : Int32} (hd : decode cc pc = .ok (.putfield 40, 3)) (ha : h.2 a = some (.inr (1, ob1 A Fv))) (kk : ∀ h1 : AH, h1 = hput h a (.inr (1, ob1 A (upd Fv 0 x))) → h1.2 a = some (.inr (1, ob1 A (upd Fv 0 x))) → Run l D cA N0 RX1 cc nL ret nm R X F h1 k n (pc + 3) L (st)) : Run l D cA N0 RX1 cc nL ret nm R X F h k n (pc) L (.int x :: .ref a :: st) := R_put (T := TX1) (ci := 1) (i := 0) (ty := tyX1) hd kw130 rfl inXW1 tyX1_ok nmX1 (by decide) rfl rfl rfl ha (show 0 < 10 by decide) (kk _ rfl (hput_at h a _))
theorem PN_X1_40 {a : Nat} {fs : List Value} {x : Int32} (hd : decode cc pc = .ok (.putfield 40, 3)) (hl : 0 < fs.length) (ha : h.2 a = some (.inr (1, fs))) (kk : ∀ h1 : AH, h1 = hput h a (.inr (1, fs.set 0 (.int x))) → h1.2 a = some (.inr (1, fs.set 0 (.int x))) → Run l D cA N0 RX1 cc nL ret nm R X F h1 k n (pc + 3) L (st)) : Run l D cA N0 RX1 cc nL ret nm R X F h k n (pc) L (.int x :: .ref a :: st) := R_put (T := TX1) (ci := 1) (i := 0) (ty := tyX1) hd kw130 rfl inXW1 tyX1_ok nmX1 (by decide) rfl rfl rfl ha hl (kk _ rfl (hput_at h a _))
theorem G_X1_43 {a : Nat} {A : Nat → Nat} {Fv : Nat → Int32} (hd : decode cc pc = .ok (.getfield 43, 3)) (ha : h.2 a = some (.inr (1, ob1 A Fv))) (kk : Run l D cA N0 RX1 cc nL ret nm R X F h k n (pc + 3) L (.int (Fv 1) :: st)) : Run l D cA N0 RX1 cc nL ret nm R X F h k n (pc) L (.ref a :: st) := R_get (T := TX1) (ci := 1) (i := 1) hd kw131 rfl inXW1 (by decide) ha rfl kk
theorem GN_X1_43 {a : Nat} {fs : List Value} {v : Value} (hd : decode cc pc = .ok (.getfield 43, 3)) (ha : h.2 a = some (.inr (1, fs))) (hv : fs[1]? = some v) (kk : Run l D cA N0 RX1 cc nL ret nm R X F h k n (pc + 3) L (v :: st)) : Run l D cA N0 RX1 cc nL ret nm R X F h k n (pc) L (.ref a :: st) := R_get (T := TX1) (ci := 1) (i := 1) hd kw131 rfl inXW1 (by decide) ha hv kk
theorem P_X1_43 {a : Nat} {A : Nat → Nat} {Fv : Nat → Int32} {x : Int32} (hd : decode cc pc = .ok (.putfield 43, 3)) (hz : x = 0 ∨ x = 1) (ha : h.2 a = some (.inr (1, ob1 A Fv))) (kk : ∀ h1 : AH, h1 = hput h a (.inr (1, ob1 A (upd Fv 1 x))) → h1.2 a = some (.inr (1, ob1 A (upd Fv 1 x))) → Run l D cA N0 RX1 cc nL ret nm R X F h1 k n (pc + 3) L (st)) : Run l D cA N0 RX1 cc nL ret nm R X F h k n (pc) L (.int x :: .ref a :: st) := R_put (T := TX1) (ci := 1) (i := 1) (ty := tyX1) hd kw131 rfl inXW1 tyX1_ok nmX1 (by decide) rfl (nar_z hz) (fits_z hz) ha (show 1 < 10 by decide) (kk _ rfl (hput_at h a _))
theorem PN_X1_43 {a : Nat} {fs : List Value} {x : Int32} (hd : decode cc pc = .ok (.putfield 43, 3)) (hz : x = 0 ∨ x = 1) (hl : 1 < fs.length) (ha : h.2 a = some (.inr (1, fs))) (kk : ∀ h1 : AH, h1 = hput h a (.inr (1, fs.set 1 (.int x))) → h1.2 a = some (.inr (1, fs.set 1 (.int x))) → Run l D cA N0 RX1 cc nL ret nm R X F h1 k n (pc + 3) L (st)) : Run l D cA N0 RX1 cc nL ret nm R X F h k n (pc) L (.int x :: .ref a :: st) := R_put (T := TX1) (ci := 1) (i := 1) (ty := tyX1) hd kw131 rfl inXW1 tyX1_ok nmX1 (by decide) rfl (nar_z hz) (fits_z hz) ha hl (kk _ rfl (hput_at h a _))
theorem G_X1_47 {a : Nat} {A : Nat → Nat} {Fv : Nat → Int32} (hd : decode cc pc = .ok (.getfield 47, 3)) (ha : h.2 a = some (.inr (1, ob1 A Fv))) (kk : Run l D cA N0 RX1 cc nL ret nm R X F h k n (pc + 3) L (.int (Fv 2) :: st)) : Run l D cA N0 RX1 cc nL ret nm R X F h k n (pc) L (.ref a :: st) := R_get (T := TX1) (ci := 1) (i := 2) hd kw132 rfl inXW1 (by decide) ha rfl kk
theorem GN_X1_47 {a : Nat} {fs : List Value} {v : Value} (hd : decode cc pc = .ok (.getfield 47, 3)) (ha : h.2 a = some (.inr (1, fs))) (hv : fs[2]? = some v) (kk : Run l D cA N0 RX1 cc nL ret nm R X F h k n (pc + 3) L (v :: st)) : Run l D cA N0 RX1 cc nL ret nm R X F h k n (pc) L (.ref a :: st) := R_get (T := TX1) (ci := 1) (i := 2) hd kw132 rfl inXW1 (by decide) ha hv kk
theorem P_X1_47 {a : Nat} {A : Nat → Nat} {Fv : Nat → Int32} {x : Int32} (hd : decode cc pc = .ok (.putfield 47, 3)) (ha : h.2 a = some (.inr (1, ob1 A Fv))) (kk : ∀ h1 : AH, h1 = hput h a (.inr (1, ob1 A (upd Fv 2 x))) → h1.2 a = some (.inr (1, ob1 A (upd Fv 2 x))) → Run l D cA N0 RX1 cc nL ret nm R X F h1 k n (pc + 3) L (st)) : Run l D cA N0 RX1 cc nL ret nm R X F h k n (pc) L (.int x :: .ref a :: st) := R_put (T := TX1) (ci := 1) (i := 2) (ty := tyX1) hd kw132 rfl inXW1 tyX1_ok nmX1 (by decide) rfl rfl rfl ha (show 2 < 10 by decide) (kk _ rfl (hput_at h a _))
theorem PN_X1_47 {a : Nat} {fs : List Value} {x : Int32} (hd : decode cc pc = .ok (.putfield 47, 3)) (hl : 2 < fs.length) (ha : h.2 a = some (.inr (1, fs))) (kk : ∀ h1 : AH, h1 = hput h a (.inr (1, fs.set 2 (.int x))) → h1.2 a = some (.inr (1, fs.set 2 (.int x))) → Run l D cA N0 RX1 cc nL ret nm R X F h1 k n (pc + 3) L (st)) : Run l D cA N0 RX1 cc nL ret nm R X F h k n (pc) L (.int x :: .ref a :: st) := R_put (T := TX1) (ci := 1) (i := 2) (ty := tyX1) hd kw132 rfl inXW1 tyX1_ok nmX1 (by decide) rfl rfl rfl ha hl (kk _ rfl (hput_at h a _))
theorem G_X1_50 {a : Nat} {A : Nat → Nat} {Fv : Nat → Int32} (hd : decode cc pc = .ok (.getfield 50, 3)) (ha : h.2 a = some (.inr (1, ob1 A Fv))) (kk : Run l D cA N0 RX1 cc nL ret nm R X F h k n (pc + 3) L (.int (Fv 4) :: st)) : Run l D cA N0 RX1 cc nL ret nm R X F h k n (pc) L (.ref a :: st) := R_get (T := TX1) (ci := 1) (i := 4) hd kw134 rfl inXW1 (by decide) ha rfl kk
theorem GN_X1_50 {a : Nat} {fs : List Value} {v : Value} (hd : decode cc pc = .ok (.getfield 50, 3)) (ha : h.2 a = some (.inr (1, fs))) (hv : fs[4]? = some v) (kk : Run l D cA N0 RX1 cc nL ret nm R X F h k n (pc + 3) L (v :: st)) : Run l D cA N0 RX1 cc nL ret nm R X F h k n (pc) L (.ref a :: st) := R_get (T := TX1) (ci := 1) (i := 4) hd kw134 rfl inXW1 (by decide) ha hv kk
theorem P_X1_50 {a : Nat} {A : Nat → Nat} {Fv : Nat → Int32} {x : Int32} (hd : decode cc pc = .ok (.putfield 50, 3)) (ha : h.2 a = some (.inr (1, ob1 A Fv))) (kk : ∀ h1 : AH, h1 = hput h a (.inr (1, ob1 A (upd Fv 4 x))) → h1.2 a = some (.inr (1, ob1 A (upd Fv 4 x))) → Run l D cA N0 RX1 cc nL ret nm R X F h1 k n (pc + 3) L (st)) : Run l D cA N0 RX1 cc nL ret nm R X F h k n (pc) L (.int x :: .ref a :: st) := R_put (T := TX1) (ci := 1) (i := 4) (ty := tyX1) hd kw134 rfl inXW1 tyX1_ok nmX1 (by decide) rfl rfl rfl ha (show 4 < 10 by decide) (kk _ rfl (hput_at h a _))
theorem PN_X1_50 {a : Nat} {fs : List Value} {x : Int32} (hd : decode cc pc = .ok (.putfield 50, 3)) (hl : 4 < fs.length) (ha : h.2 a = some (.inr (1, fs))) (kk : ∀ h1 : AH, h1 = hput h a (.inr (1, fs.set 4 (.int x))) → h1.2 a = some (.inr (1, fs.set 4 (.int x))) → Run l D cA N0 RX1 cc nL ret nm R X F h1 k n (pc + 3) L (st)) : Run l D cA N0 RX1 cc nL ret nm R X F h k n (pc) L (.int x :: .ref a :: st) := R_put (T := TX1) (ci := 1) (i := 4) (ty := tyX1) hd kw134 rfl inXW1 tyX1_ok nmX1 (by decide) rfl rfl rfl ha hl (kk _ rfl (hput_at h a _))
theorem G_X1_53 {a : Nat} {A : Nat → Nat} {Fv : Nat → Int32} (hd : decode cc pc = .ok (.getfield 53, 3)) (ha : h.2 a = some (.inr (1, ob1 A Fv))) (kk : Run l D cA N0 RX1 cc nL ret nm R X F h k n (pc + 3) L (.int (Fv 5) :: st)) : Run l D cA N0 RX1 cc nL ret nm R X F h k n (pc) L (.ref a :: st) := R_get (T := TX1) (ci := 1) (i := 5) hd kw135 rfl inXW1 (by decide) ha rfl kk
theorem GN_X1_53 {a : Nat} {fs : List Value} {v : Value} (hd : decode cc pc = .ok (.getfield 53, 3)) (ha : h.2 a = some (.inr (1, fs))) (hv : fs[5]? = some v) (kk : Run l D cA N0 RX1 cc nL ret nm R X F h k n (pc + 3) L (v :: st)) : Run l D cA N0 RX1 cc nL ret nm R X F h k n (pc) L (.ref a :: st) := R_get (T := TX1) (ci := 1) (i := 5) hd kw135 rfl inXW1 (by decide) ha hv kk
theorem P_X1_53 {a : Nat} {A : Nat → Nat} {Fv : Nat → Int32} {x : Int32} (hd : decode cc pc = .ok (.putfield 53, 3)) (ha : h.2 a = some (.inr (1, ob1 A Fv))) (kk : ∀ h1 : AH, h1 = hput h a (.inr (1, ob1 A (upd Fv 5 x))) → h1.2 a = some (.inr (1, ob1 A (upd Fv 5 x))) → Run l D cA N0 RX1 cc nL ret nm R X F h1 k n (pc + 3) L (st)) : Run l D cA N0 RX1 cc nL ret nm R X F h k n (pc) L (.int x :: .ref a :: st) := R_put (T := TX1) (ci := 1) (i := 5) (ty := tyX1) hd kw135 rfl inXW1 tyX1_ok nmX1 (by decide) rfl rfl rfl ha (show 5 < 10 by decide) (kk _ rfl (hput_at h a _))
theorem PN_X1_53 {a : Nat} {fs : List Value} {x : Int32} (hd : decode cc pc = .ok (.putfield 53, 3)) (hl : 5 < fs.length) (ha : h.2 a = some (.inr (1, fs))) (kk : ∀ h1 : AH, h1 = hput h a (.inr (1, fs.set 5 (.int x))) → h1.2 a = some (.inr (1, fs.set 5 (.int x))) → Run l D cA N0 RX1 cc nL ret nm R X F h1 k n (pc + 3) L (st)) : Run l D cA N0 RX1 cc nL ret nm R X F h k n (pc) L (.int x :: .ref a :: st) := R_put (T := TX1) (ci := 1) (i := 5) (ty := tyX1) hd kw135 rfl inXW1 tyX1_ok nmX1 (by decide) rfl rfl rfl ha hl (kk _ rfl (hput_at h a _))
theorem G_X1_73 {a : Nat} {A : Nat → Nat} {Fv : Nat → Int32} (hd : decode cc pc = .ok (.getfield 73, 3)) (ha : h.2 a = some (.inr (5, ob5 A Fv))) (kk : Run l D cA N0 RX1 cc nL ret nm R X F h k n (pc + 3) L (.int (Fv 2) :: st)) : Run l D cA N0 RX1 cc nL ret nm R X F h k n (pc) L (.ref a :: st) := R_get (T := TX7) (ci := 5) (i := 2) hd kw86 rfl inXW5 (by decide) ha rfl kk
theorem GN_X1_73 {a : Nat} {fs : List Value} {v : Value} (hd : decode cc pc = .ok (.getfield 73, 3)) (ha : h.2 a = some (.inr (5, fs))) (hv : fs[2]? = some v) (kk : Run l D cA N0 RX1 cc nL ret nm R X F h k n (pc + 3) L (v :: st)) : Run l D cA N0 RX1 cc nL ret nm R X F h k n (pc) L (.ref a :: st) := R_get (T := TX7) (ci := 5) (i := 2) hd kw86 rfl inXW5 (by decide) ha hv kk
theorem P_X1_73 {a : Nat} {A : Nat → Nat} {Fv : Nat → Int32} {x : Int32} (hd : decode cc pc = .ok (.putfield 73, 3)) (ha : h.2 a = some (.inr (5, ob5 A Fv))) (kk : ∀ h1 : AH, h1 = hput h a (.inr (5, ob5 A (upd Fv 2 x))) → h1.2 a = some (.inr (5, ob5 A (upd Fv 2 x))) → Run l D cA N0 RX1 cc nL ret nm R X F h1 k n (pc + 3) L (st)) : Run l D cA N0 RX1 cc nL ret nm R X F h k n (pc) L (.int x :: .ref a :: st) := R_put (T := TX7) (ci := 5) (i := 2) (ty := tyX7) hd kw86 rfl inXW5 tyX7_ok nmX7 (by decide) rfl rfl rfl ha (show 2 < 12 by decide) (kk _ rfl (hput_at h a _))
theorem PN_X1_73 {a : Nat} {fs : List Value} {x : Int32} (hd : decode cc pc = .ok (.putfield 73, 3)) (hl : 2 < fs.length) (ha : h.2 a = some (.inr (5, fs))) (kk : ∀ h1 : AH, h1 = hput h a (.inr (5, fs.set 2 (.int x))) → h1.2 a = some (.inr (5, fs.set 2 (.int x))) → Run l D cA N0 RX1 cc nL ret nm R X F h1 k n (pc + 3) L (st)) : Run l D cA N0 RX1 cc nL ret nm R X F h k n (pc) L (.int x :: .ref a :: st) := R_put (T := TX7) (ci := 5) (i := 2) (ty := tyX7) hd kw86 rfl inXW5 tyX7_ok nmX7 (by decide) rfl rfl rfl ha hl (kk _ rfl (hput_at h a _))
theorem G_X1_94 {a : Nat} {A : Nat → Nat} {Fv : Nat → Int32} (hd : decode cc pc = .ok (.getfield 94, 3)) (ha : h.2 a = some (.inr (5, ob5 A Fv))) (kk : Run l D cA N0 RX1 cc nL ret nm R X F h k n (pc + 3) L (.int (Fv 0) :: st)) : Run l D cA N0 RX1 cc nL ret nm R X F h k n (pc) L (.ref a :: st) := R_get (T := TX7) (ci := 5) (i := 0) hd kw81 rfl inXW5 (by decide) ha rfl kk
theorem GN_X1_94 {a : Nat} {fs : List Value} {v : Value} (hd : decode cc pc = .ok (.getfield 94, 3)) (ha : h.2 a = some (.inr (5, fs))) (hv : fs[0]? = some v) (kk : Run l D cA N0 RX1 cc nL ret nm R X F h k n (pc + 3) L (v :: st)) : Run l D cA N0 RX1 cc nL ret nm R X F h k n (pc) L (.ref a :: st) := R_get (T := TX7) (ci := 5) (i := 0) hd kw81 rfl inXW5 (by decide) ha hv kk
theorem G_X1_105 {a : Nat} {A : Nat → Nat} {Fv : Nat → Int32} (hd : decode cc pc = .ok (.getfield 105, 3)) (ha : h.2 a = some (.inr (5, ob5 A Fv))) (kk : Run l D cA N0 RX1 cc nL ret nm R X F h k n (pc + 3) L (.int (Fv 1) :: st)) : Run l D cA N0 RX1 cc nL ret nm R X F h k n (pc) L (.ref a :: st) := R_get (T := TX7) (ci := 5) (i := 1) hd kw83 rfl inXW5 (by decide) ha rfl kk
theorem GN_X1_105 {a : Nat} {fs : List Value} {v : Value} (hd : decode cc pc = .ok (.getfield 105, 3)) (ha : h.2 a = some (.inr (5, fs))) (hv : fs[1]? = some v) (kk : Run l D cA N0 RX1 cc nL ret nm R X F h k n (pc + 3) L (v :: st)) : Run l D cA N0 RX1 cc nL ret nm R X F h k n (pc) L (.ref a :: st) := R_get (T := TX7) (ci := 5) (i := 1) hd kw83 rfl inXW5 (by decide) ha hv kk
theorem P_X1_105 {a : Nat} {A : Nat → Nat} {Fv : Nat → Int32} {x : Int32} (hd : decode cc pc = .ok (.putfield 105, 3)) (ha : h.2 a = some (.inr (5, ob5 A Fv))) (kk : ∀ h1 : AH, h1 = hput h a (.inr (5, ob5 A (upd Fv 1 x))) → h1.2 a = some (.inr (5, ob5 A (upd Fv 1 x))) → Run l D cA N0 RX1 cc nL ret nm R X F h1 k n (pc + 3) L (st)) : Run l D cA N0 RX1 cc nL ret nm R X F h k n (pc) L (.int x :: .ref a :: st) := R_put (T := TX7) (ci := 5) (i := 1) (ty := tyX7) hd kw83 rfl inXW5 tyX7_ok nmX7 (by decide) rfl rfl rfl ha (show 1 < 12 by decide) (kk _ rfl (hput_at h a _))
theorem PN_X1_105 {a : Nat} {fs : List Value} {x : Int32} (hd : decode cc pc = .ok (.putfield 105, 3)) (hl : 1 < fs.length) (ha : h.2 a = some (.inr (5, fs))) (kk : ∀ h1 : AH, h1 = hput h a (.inr (5, fs.set 1 (.int x))) → h1.2 a = some (.inr (5, fs.set 1 (.int x))) → Run l D cA N0 RX1 cc nL ret nm R X F h1 k n (pc + 3) L (st)) : Run l D cA N0 RX1 cc nL ret nm R X F h k n (pc) L (.int x :: .ref a :: st) := R_put (T := TX7) (ci := 5) (i := 1) (ty := tyX7) hd kw83 rfl inXW5 tyX7_ok nmX7 (by decide) rfl rfl rfl ha hl (kk _ rfl (hput_at h a _))
theorem G_X1_108 {a : Nat} {A : Nat → Nat} {Fv : Nat → Int32} (hd : decode cc pc = .ok (.getfield 108, 3)) (ha : h.2 a = some (.inr (5, ob5 A Fv))) (kk : Run l D cA N0 RX1 cc nL ret nm R X F h k n (pc + 3) L (.int (Fv 3) :: st)) : Run l D cA N0 RX1 cc nL ret nm R X F h k n (pc) L (.ref a :: st) := R_get (T := TX7) (ci := 5) (i := 3) hd kw89 rfl inXW5 (by decide) ha rfl kk
theorem GN_X1_108 {a : Nat} {fs : List Value} {v : Value} (hd : decode cc pc = .ok (.getfield 108, 3)) (ha : h.2 a = some (.inr (5, fs))) (hv : fs[3]? = some v) (kk : Run l D cA N0 RX1 cc nL ret nm R X F h k n (pc + 3) L (v :: st)) : Run l D cA N0 RX1 cc nL ret nm R X F h k n (pc) L (.ref a :: st) := R_get (T := TX7) (ci := 5) (i := 3) hd kw89 rfl inXW5 (by decide) ha hv kk
theorem P_X1_108 {a : Nat} {A : Nat → Nat} {Fv : Nat → Int32} {x : Int32} (hd : decode cc pc = .ok (.putfield 108, 3)) (ha : h.2 a = some (.inr (5, ob5 A Fv))) (kk : ∀ h1 : AH, h1 = hput h a (.inr (5, ob5 A (upd Fv 3 x))) → h1.2 a = some (.inr (5, ob5 A (upd Fv 3 x))) → Run l D cA N0 RX1 cc nL ret nm R X F h1 k n (pc + 3) L (st)) : Run l D cA N0 RX1 cc nL ret nm R X F h k n (pc) L (.int x :: .ref a :: st) := R_put (T := TX7) (ci := 5) (i := 3) (ty := tyX7) hd kw89 rfl inXW5 tyX7_ok nmX7 (by decide) rfl rfl rfl ha (show 3 < 12 by decide) (kk _ rfl (hput_at h a _))
theorem PN_X1_108 {a : Nat} {fs : List Value} {x : Int32} (hd : decode cc pc = .ok (.putfield 108, 3)) (hl : 3 < fs.length) (ha : h.2 a = some (.inr (5, fs))) (kk : ∀ h1 : AH, h1 = hput h a (.inr (5, fs.set 3 (.int x))) → h1.2 a = some (.inr (5, fs.set 3 (.int x))) → Run l D cA N0 RX1 cc nL ret nm R X F h1 k n (pc + 3) L (st)) : Run l D cA N0 RX1 cc nL ret nm R X F h k n (pc) L (.int x :: .ref a :: st) := R_put (T := TX7) (ci := 5) (i := 3) (ty := tyX7) hd kw89 rfl inXW5 tyX7_ok nmX7 (by decide) rfl rfl rfl ha hl (kk _ rfl (hput_at h a _))
theorem G_X1_111 {a : Nat} {A : Nat → Nat} {Fv : Nat → Int32} (hd : decode cc pc = .ok (.getfield 111, 3)) (ha : h.2 a = some (.inr (5, ob5 A Fv))) (kk : Run l D cA N0 RX1 cc nL ret nm R X F h k n (pc + 3) L (.int (Fv 4) :: st)) : Run l D cA N0 RX1 cc nL ret nm R X F h k n (pc) L (.ref a :: st) := R_get (T := TX7) (ci := 5) (i := 4) hd kw91 rfl inXW5 (by decide) ha rfl kk
theorem GN_X1_111 {a : Nat} {fs : List Value} {v : Value} (hd : decode cc pc = .ok (.getfield 111, 3)) (ha : h.2 a = some (.inr (5, fs))) (hv : fs[4]? = some v) (kk : Run l D cA N0 RX1 cc nL ret nm R X F h k n (pc + 3) L (v :: st)) : Run l D cA N0 RX1 cc nL ret nm R X F h k n (pc) L (.ref a :: st) := R_get (T := TX7) (ci := 5) (i := 4) hd kw91 rfl inXW5 (by decide) ha hv kk
theorem P_X1_111 {a : Nat} {A : Nat → Nat} {Fv : Nat → Int32} {x : Int32} (hd : decode cc pc = .ok (.putfield 111, 3)) (ha : h.2 a = some (.inr (5, ob5 A Fv))) (kk : ∀ h1 : AH, h1 = hput h a (.inr (5, ob5 A (upd Fv 4 x))) → h1.2 a = some (.inr (5, ob5 A (upd Fv 4 x))) → Run l D cA N0 RX1 cc nL ret nm R X F h1 k n (pc + 3) L (st)) : Run l D cA N0 RX1 cc nL ret nm R X F h k n (pc) L (.int x :: .ref a :: st) := R_put (T := TX7) (ci := 5) (i := 4) (ty := tyX7) hd kw91 rfl inXW5 tyX7_ok nmX7 (by decide) rfl rfl rfl ha (show 4 < 12 by decide) (kk _ rfl (hput_at h a _))
theorem PN_X1_111 {a : Nat} {fs : List Value} {x : Int32} (hd : decode cc pc = .ok (.putfield 111, 3)) (hl : 4 < fs.length) (ha : h.2 a = some (.inr (5, fs))) (kk : ∀ h1 : AH, h1 = hput h a (.inr (5, fs.set 4 (.int x))) → h1.2 a = some (.inr (5, fs.set 4 (.int x))) → Run l D cA N0 RX1 cc nL ret nm R X F h1 k n (pc + 3) L (st)) : Run l D cA N0 RX1 cc nL ret nm R X F h k n (pc) L (.int x :: .ref a :: st) := R_put (T := TX7) (ci := 5) (i := 4) (ty := tyX7) hd kw91 rfl inXW5 tyX7_ok nmX7 (by decide) rfl rfl rfl ha hl (kk _ rfl (hput_at h a _))
theorem G_X1_114 {a : Nat} {A : Nat → Nat} {Fv : Nat → Int32} (hd : decode cc pc = .ok (.getfield 114, 3)) (ha : h.2 a = some (.inr (5, ob5 A Fv))) (kk : Run l D cA N0 RX1 cc nL ret nm R X F h k n (pc + 3) L (.int (Fv 5) :: st)) : Run l D cA N0 RX1 cc nL ret nm R X F h k n (pc) L (.ref a :: st) := R_get (T := TX7) (ci := 5) (i := 5) hd kw93 rfl inXW5 (by decide) ha rfl kk
theorem GN_X1_114 {a : Nat} {fs : List Value} {v : Value} (hd : decode cc pc = .ok (.getfield 114, 3)) (ha : h.2 a = some (.inr (5, fs))) (hv : fs[5]? = some v) (kk : Run l D cA N0 RX1 cc nL ret nm R X F h k n (pc + 3) L (v :: st)) : Run l D cA N0 RX1 cc nL ret nm R X F h k n (pc) L (.ref a :: st) := R_get (T := TX7) (ci := 5) (i := 5) hd kw93 rfl inXW5 (by decide) ha hv kk
theorem P_X1_114 {a : Nat} {A : Nat → Nat} {Fv : Nat → Int32} {x : Int32} (hd : decode cc pc = .ok (.putfield 114, 3)) (ha : h.2 a = some (.inr (5, ob5 A Fv))) (kk : ∀ h1 : AH, h1 = hput h a (.inr (5, ob5 A (upd Fv 5 x))) → h1.2 a = some (.inr (5, ob5 A (upd Fv 5 x))) → Run l D cA N0 RX1 cc nL ret nm R X F h1 k n (pc + 3) L (st)) : Run l D cA N0 RX1 cc nL ret nm R X F h k n (pc) L (.int x :: .ref a :: st) := R_put (T := TX7) (ci := 5) (i := 5) (ty := tyX7) hd kw93 rfl inXW5 tyX7_ok nmX7 (by decide) rfl rfl rfl ha (show 5 < 12 by decide) (kk _ rfl (hput_at h a _))
theorem PN_X1_114 {a : Nat} {fs : List Value} {x : Int32} (hd : decode cc pc = .ok (.putfield 114, 3)) (hl : 5 < fs.length) (ha : h.2 a = some (.inr (5, fs))) (kk : ∀ h1 : AH, h1 = hput h a (.inr (5, fs.set 5 (.int x))) → h1.2 a = some (.inr (5, fs.set 5 (.int x))) → Run l D cA N0 RX1 cc nL ret nm R X F h1 k n (pc + 3) L (st)) : Run l D cA N0 RX1 cc nL ret nm R X F h k n (pc) L (.int x :: .ref a :: st) := R_put (T := TX7) (ci := 5) (i := 5) (ty := tyX7) hd kw93 rfl inXW5 tyX7_ok nmX7 (by decide) rfl rfl rfl ha hl (kk _ rfl (hput_at h a _))
theorem G_X1_117 {a : Nat} {A : Nat → Nat} {Fv : Nat → Int32} (hd : decode cc pc = .ok (.getfield 117, 3)) (ha : h.2 a = some (.inr (5, ob5 A Fv))) (kk : Run l D cA N0 RX1 cc nL ret nm R X F h k n (pc + 3) L (.int (Fv 6) :: st)) : Run l D cA N0 RX1 cc nL ret nm R X F h k n (pc) L (.ref a :: st) := R_get (T := TX7) (ci := 5) (i := 6) hd kw95 rfl inXW5 (by decide) ha rfl kk
theorem GN_X1_117 {a : Nat} {fs : List Value} {v : Value} (hd : decode cc pc = .ok (.getfield 117, 3)) (ha : h.2 a = some (.inr (5, fs))) (hv : fs[6]? = some v) (kk : Run l D cA N0 RX1 cc nL ret nm R X F h k n (pc + 3) L (v :: st)) : Run l D cA N0 RX1 cc nL ret nm R X F h k n (pc) L (.ref a :: st) := R_get (T := TX7) (ci := 5) (i := 6) hd kw95 rfl inXW5 (by decide) ha hv kk
theorem P_X1_117 {a : Nat} {A : Nat → Nat} {Fv : Nat → Int32} {x : Int32} (hd : decode cc pc = .ok (.putfield 117, 3)) (ha : h.2 a = some (.inr (5, ob5 A Fv))) (kk : ∀ h1 : AH, h1 = hput h a (.inr (5, ob5 A (upd Fv 6 x))) → h1.2 a = some (.inr (5, ob5 A (upd Fv 6 x))) → Run l D cA N0 RX1 cc nL ret nm R X F h1 k n (pc + 3) L (st)) : Run l D cA N0 RX1 cc nL ret nm R X F h k n (pc) L (.int x :: .ref a :: st) := R_put (T := TX7) (ci := 5) (i := 6) (ty := tyX7) hd kw95 rfl inXW5 tyX7_ok nmX7 (by decide) rfl rfl rfl ha (show 6 < 12 by decide) (kk _ rfl (hput_at h a _))
theorem PN_X1_117 {a : Nat} {fs : List Value} {x : Int32} (hd : decode cc pc = .ok (.putfield 117, 3)) (hl : 6 < fs.length) (ha : h.2 a = some (.inr (5, fs))) (kk : ∀ h1 : AH, h1 = hput h a (.inr (5, fs.set 6 (.int x))) → h1.2 a = some (.inr (5, fs.set 6 (.int x))) → Run l D cA N0 RX1 cc nL ret nm R X F h1 k n (pc + 3) L (st)) : Run l D cA N0 RX1 cc nL ret nm R X F h k n (pc) L (.int x :: .ref a :: st) := R_put (T := TX7) (ci := 5) (i := 6) (ty := tyX7) hd kw95 rfl inXW5 tyX7_ok nmX7 (by decide) rfl rfl rfl ha hl (kk _ rfl (hput_at h a _))
theorem G_X1_120 {a : Nat} {A : Nat → Nat} {Fv : Nat → Int32} (hd : decode cc pc = .ok (.getfield 120, 3)) (ha : h.2 a = some (.inr (5, ob5 A Fv))) (kk : Run l D cA N0 RX1 cc nL ret nm R X F h k n (pc + 3) L (.int (Fv 7) :: st)) : Run l D cA N0 RX1 cc nL ret nm R X F h k n (pc) L (.ref a :: st) := R_get (T := TX7) (ci := 5) (i := 7) hd kw97 rfl inXW5 (by decide) ha rfl kk
theorem GN_X1_120 {a : Nat} {fs : List Value} {v : Value} (hd : decode cc pc = .ok (.getfield 120, 3)) (ha : h.2 a = some (.inr (5, fs))) (hv : fs[7]? = some v) (kk : Run l D cA N0 RX1 cc nL ret nm R X F h k n (pc + 3) L (v :: st)) : Run l D cA N0 RX1 cc nL ret nm R X F h k n (pc) L (.ref a :: st) := R_get (T := TX7) (ci := 5) (i := 7) hd kw97 rfl inXW5 (by decide) ha hv kk
theorem P_X1_120 {a : Nat} {A : Nat → Nat} {Fv : Nat → Int32} {x : Int32} (hd : decode cc pc = .ok (.putfield 120, 3)) (ha : h.2 a = some (.inr (5, ob5 A Fv))) (kk : ∀ h1 : AH, h1 = hput h a (.inr (5, ob5 A (upd Fv 7 x))) → h1.2 a = some (.inr (5, ob5 A (upd Fv 7 x))) → Run l D cA N0 RX1 cc nL ret nm R X F h1 k n (pc + 3) L (st)) : Run l D cA N0 RX1 cc nL ret nm R X F h k n (pc) L (.int x :: .ref a :: st) := R_put (T := TX7) (ci := 5) (i := 7) (ty := tyX7) hd kw97 rfl inXW5 tyX7_ok nmX7 (by decide) rfl rfl rfl ha (show 7 < 12 by decide) (kk _ rfl (hput_at h a _))
theorem PN_X1_120 {a : Nat} {fs : List Value} {x : Int32} (hd : decode cc pc = .ok (.putfield 120, 3)) (hl : 7 < fs.length) (ha : h.2 a = some (.inr (5, fs))) (kk : ∀ h1 : AH, h1 = hput h a (.inr (5, fs.set 7 (.int x))) → h1.2 a = some (.inr (5, fs.set 7 (.int x))) → Run l D cA N0 RX1 cc nL ret nm R X F h1 k n (pc + 3) L (st)) : Run l D cA N0 RX1 cc nL ret nm R X F h k n (pc) L (.int x :: .ref a :: st) := R_put (T := TX7) (ci := 5) (i := 7) (ty := tyX7) hd kw97 rfl inXW5 tyX7_ok nmX7 (by decide) rfl rfl rfl ha hl (kk _ rfl (hput_at h a _))
theorem G_X1_127 {a : Nat} {A : Nat → Nat} {Fv : Nat → Int32} (hd : decode cc pc = .ok (.getfield 127, 3)) (ha : h.2 a = some (.inr (0, ob0 A Fv))) (kk : Run l D cA N0 RX1 cc nL ret nm R X F h k n (pc + 3) L (.int (Fv 2) :: st)) : Run l D cA N0 RX1 cc nL ret nm R X F h k n (pc) L (.ref a :: st) := R_get (T := TX0) (ci := 0) (i := 2) hd kw65 rfl inXW0 (by decide) ha rfl kk
theorem GN_X1_127 {a : Nat} {fs : List Value} {v : Value} (hd : decode cc pc = .ok (.getfield 127, 3)) (ha : h.2 a = some (.inr (0, fs))) (hv : fs[2]? = some v) (kk : Run l D cA N0 RX1 cc nL ret nm R X F h k n (pc + 3) L (v :: st)) : Run l D cA N0 RX1 cc nL ret nm R X F h k n (pc) L (.ref a :: st) := R_get (T := TX0) (ci := 0) (i := 2) hd kw65 rfl inXW0 (by decide) ha hv kk
theorem P_X1_127 {a : Nat} {A : Nat → Nat} {Fv : Nat → Int32} {x : Int32} (hd : decode cc pc = .ok (.putfield 127, 3)) (ha : h.2 a = some (.inr (0, ob0 A Fv))) (kk : ∀ h1 : AH, h1 = hput h a (.inr (0, ob0 A (upd Fv 2 x))) → h1.2 a = some (.inr (0, ob0 A (upd Fv 2 x))) → Run l D cA N0 RX1 cc nL ret nm R X F h1 k n (pc + 3) L (st)) : Run l D cA N0 RX1 cc nL ret nm R X F h k n (pc) L (.int x :: .ref a :: st) := R_put (T := TX0) (ci := 0) (i := 2) (ty := tyX0) hd kw65 rfl inXW0 tyX0_ok nmX0 (by decide) rfl rfl rfl ha (show 2 < 3 by decide) (kk _ rfl (hput_at h a _))
theorem PN_X1_127 {a : Nat} {fs : List Value} {x : Int32} (hd : decode cc pc = .ok (.putfield 127, 3)) (hl : 2 < fs.length) (ha : h.2 a = some (.inr (0, fs))) (kk : ∀ h1 : AH, h1 = hput h a (.inr (0, fs.set 2 (.int x))) → h1.2 a = some (.inr (0, fs.set 2 (.int x))) → Run l D cA N0 RX1 cc nL ret nm R X F h1 k n (pc + 3) L (st)) : Run l D cA N0 RX1 cc nL ret nm R X F h k n (pc) L (.int x :: .ref a :: st) := R_put (T := TX0) (ci := 0) (i := 2) (ty := tyX0) hd kw65 rfl inXW0 tyX0_ok nmX0 (by decide) rfl rfl rfl ha hl (kk _ rfl (hput_at h a _))
theorem G_X1_133 {a : Nat} {A : Nat → Nat} {Fv : Nat → Int32} (hd : decode cc pc = .ok (.getfield 133, 3)) (ha : h.2 a = some (.inr (0, ob0 A Fv))) (kk : Run l D cA N0 RX1 cc nL ret nm R X F h k n (pc + 3) L (.int (Fv 1) :: st)) : Run l D cA N0 RX1 cc nL ret nm R X F h k n (pc) L (.ref a :: st) := R_get (T := TX0) (ci := 0) (i := 1) hd kw63 rfl inXW0 (by decide) ha rfl kk
theorem GN_X1_133 {a : Nat} {fs : List Value} {v : Value} (hd : decode cc pc = .ok (.getfield 133, 3)) (ha : h.2 a = some (.inr (0, fs))) (hv : fs[1]? = some v) (kk : Run l D cA N0 RX1 cc nL ret nm R X F h k n (pc + 3) L (v :: st)) : Run l D cA N0 RX1 cc nL ret nm R X F h k n (pc) L (.ref a :: st) := R_get (T := TX0) (ci := 0) (i := 1) hd kw63 rfl inXW0 (by decide) ha hv kk
theorem P_X1_133 {a : Nat} {A : Nat → Nat} {Fv : Nat → Int32} {x : Int32} (hd : decode cc pc = .ok (.putfield 133, 3)) (ha : h.2 a = some (.inr (0, ob0 A Fv))) (kk : ∀ h1 : AH, h1 = hput h a (.inr (0, ob0 A (upd Fv 1 x))) → h1.2 a = some (.inr (0, ob0 A (upd Fv 1 x))) → Run l D cA N0 RX1 cc nL ret nm R X F h1 k n (pc + 3) L (st)) : Run l D cA N0 RX1 cc nL ret nm R X F h k n (pc) L (.int x :: .ref a :: st) := R_put (T := TX0) (ci := 0) (i := 1) (ty := tyX0) hd kw63 rfl inXW0 tyX0_ok nmX0 (by decide) rfl rfl rfl ha (show 1 < 3 by decide) (kk _ rfl (hput_at h a _))
theorem PN_X1_133 {a : Nat} {fs : List Value} {x : Int32} (hd : decode cc pc = .ok (.putfield 133, 3)) (hl : 1 < fs.length) (ha : h.2 a = some (.inr (0, fs))) (kk : ∀ h1 : AH, h1 = hput h a (.inr (0, fs.set 1 (.int x))) → h1.2 a = some (.inr (0, fs.set 1 (.int x))) → Run l D cA N0 RX1 cc nL ret nm R X F h1 k n (pc + 3) L (st)) : Run l D cA N0 RX1 cc nL ret nm R X F h k n (pc) L (.int x :: .ref a :: st) := R_put (T := TX0) (ci := 0) (i := 1) (ty := tyX0) hd kw63 rfl inXW0 tyX0_ok nmX0 (by decide) rfl rfl rfl ha hl (kk _ rfl (hput_at h a _))
theorem G_X1_186 {a : Nat} {A : Nat → Nat} {Fv : Nat → Int32} (hd : decode cc pc = .ok (.getfield 186, 3)) (ha : h.2 a = some (.inr (5, ob5 A Fv))) (kk : Run l D cA N0 RX1 cc nL ret nm R X F h k n (pc + 3) L (.int (Fv 11) :: st)) : Run l D cA N0 RX1 cc nL ret nm R X F h k n (pc) L (.ref a :: st) := R_get (T := TX7) (ci := 5) (i := 11) hd kw103 rfl inXW5 (by decide) ha rfl kk
theorem GN_X1_186 {a : Nat} {fs : List Value} {v : Value} (hd : decode cc pc = .ok (.getfield 186, 3)) (ha : h.2 a = some (.inr (5, fs))) (hv : fs[11]? = some v) (kk : Run l D cA N0 RX1 cc nL ret nm R X F h k n (pc + 3) L (v :: st)) : Run l D cA N0 RX1 cc nL ret nm R X F h k n (pc) L (.ref a :: st) := R_get (T := TX7) (ci := 5) (i := 11) hd kw103 rfl inXW5 (by decide) ha hv kk
theorem P_X1_186 {a : Nat} {A : Nat → Nat} {Fv : Nat → Int32} {x : Int32} (hd : decode cc pc = .ok (.putfield 186, 3)) (ha : h.2 a = some (.inr (5, ob5 A Fv))) (kk : ∀ h1 : AH, h1 = hput h a (.inr (5, ob5 A (upd Fv 11 x))) → h1.2 a = some (.inr (5, ob5 A (upd Fv 11 x))) → Run l D cA N0 RX1 cc nL ret nm R X F h1 k n (pc + 3) L (st)) : Run l D cA N0 RX1 cc nL ret nm R X F h k n (pc) L (.int x :: .ref a :: st) := R_put (T := TX7) (ci := 5) (i := 11) (ty := tyX7) hd kw103 rfl inXW5 tyX7_ok nmX7 (by decide) rfl rfl rfl ha (show 11 < 12 by decide) (kk _ rfl (hput_at h a _))
theorem PN_X1_186 {a : Nat} {fs : List Value} {x : Int32} (hd : decode cc pc = .ok (.putfield 186, 3)) (hl : 11 < fs.length) (ha : h.2 a = some (.inr (5, fs))) (kk : ∀ h1 : AH, h1 = hput h a (.inr (5, fs.set 11 (.int x))) → h1.2 a = some (.inr (5, fs.set 11 (.int x))) → Run l D cA N0 RX1 cc nL ret nm R X F h1 k n (pc + 3) L (st)) : Run l D cA N0 RX1 cc nL ret nm R X F h k n (pc) L (.int x :: .ref a :: st) := R_put (T := TX7) (ci := 5) (i := 11) (ty := tyX7) hd kw103 rfl inXW5 tyX7_ok nmX7 (by decide) rfl rfl rfl ha hl (kk _ rfl (hput_at h a _))
theorem G_X1_223 {a : Nat} {A : Nat → Nat} {Fv : Nat → Int32} (hd : decode cc pc = .ok (.getfield 223, 3)) (ha : h.2 a = some (.inr (5, ob5 A Fv))) (kk : Run l D cA N0 RX1 cc nL ret nm R X F h k n (pc + 3) L (.int (Fv 8) :: st)) : Run l D cA N0 RX1 cc nL ret nm R X F h k n (pc) L (.ref a :: st) := R_get (T := TX7) (ci := 5) (i := 8) hd kw99 rfl inXW5 (by decide) ha rfl kk
theorem GN_X1_223 {a : Nat} {fs : List Value} {v : Value} (hd : decode cc pc = .ok (.getfield 223, 3)) (ha : h.2 a = some (.inr (5, fs))) (hv : fs[8]? = some v) (kk : Run l D cA N0 RX1 cc nL ret nm R X F h k n (pc + 3) L (v :: st)) : Run l D cA N0 RX1 cc nL ret nm R X F h k n (pc) L (.ref a :: st) := R_get (T := TX7) (ci := 5) (i := 8) hd kw99 rfl inXW5 (by decide) ha hv kk
theorem P_X1_223 {a : Nat} {A : Nat → Nat} {Fv : Nat → Int32} {x : Int32} (hd : decode cc pc = .ok (.putfield 223, 3)) (ha : h.2 a = some (.inr (5, ob5 A Fv))) (kk : ∀ h1 : AH, h1 = hput h a (.inr (5, ob5 A (upd Fv 8 x))) → h1.2 a = some (.inr (5, ob5 A (upd Fv 8 x))) → Run l D cA N0 RX1 cc nL ret nm R X F h1 k n (pc + 3) L (st)) : Run l D cA N0 RX1 cc nL ret nm R X F h k n (pc) L (.int x :: .ref a :: st) := R_put (T := TX7) (ci := 5) (i := 8) (ty := tyX7) hd kw99 rfl inXW5 tyX7_ok nmX7 (by decide) rfl rfl rfl ha (show 8 < 12 by decide) (kk _ rfl (hput_at h a _))
theorem PN_X1_223 {a : Nat} {fs : List Value} {x : Int32} (hd : decode cc pc = .ok (.putfield 223, 3)) (hl : 8 < fs.length) (ha : h.2 a = some (.inr (5, fs))) (kk : ∀ h1 : AH, h1 = hput h a (.inr (5, fs.set 8 (.int x))) → h1.2 a = some (.inr (5, fs.set 8 (.int x))) → Run l D cA N0 RX1 cc nL ret nm R X F h1 k n (pc + 3) L (st)) : Run l D cA N0 RX1 cc nL ret nm R X F h k n (pc) L (.int x :: .ref a :: st) := R_put (T := TX7) (ci := 5) (i := 8) (ty := tyX7) hd kw99 rfl inXW5 tyX7_ok nmX7 (by decide) rfl rfl rfl ha hl (kk _ rfl (hput_at h a _))
theorem G_X1_247 {a : Nat} {A : Nat → Nat} {Fv : Nat → Int32} (hd : decode cc pc = .ok (.getfield 247, 3)) (ha : h.2 a = some (.inr (0, ob0 A Fv))) (kk : Run l D cA N0 RX1 cc nL ret nm R X F h k n (pc + 3) L (.int (Fv 0) :: st)) : Run l D cA N0 RX1 cc nL ret nm R X F h k n (pc) L (.ref a :: st) := R_get (T := TX0) (ci := 0) (i := 0) hd kw61 rfl inXW0 (by decide) ha rfl kk
theorem GN_X1_247 {a : Nat} {fs : List Value} {v : Value} (hd : decode cc pc = .ok (.getfield 247, 3)) (ha : h.2 a = some (.inr (0, fs))) (hv : fs[0]? = some v) (kk : Run l D cA N0 RX1 cc nL ret nm R X F h k n (pc + 3) L (v :: st)) : Run l D cA N0 RX1 cc nL ret nm R X F h k n (pc) L (.ref a :: st) := R_get (T := TX0) (ci := 0) (i := 0) hd kw61 rfl inXW0 (by decide) ha hv kk
theorem P_X1_247 {a : Nat} {A : Nat → Nat} {Fv : Nat → Int32} {x : Int32} (hd : decode cc pc = .ok (.putfield 247, 3)) (ha : h.2 a = some (.inr (0, ob0 A Fv))) (kk : ∀ h1 : AH, h1 = hput h a (.inr (0, ob0 A (upd Fv 0 x))) → h1.2 a = some (.inr (0, ob0 A (upd Fv 0 x))) → Run l D cA N0 RX1 cc nL ret nm R X F h1 k n (pc + 3) L (st)) : Run l D cA N0 RX1 cc nL ret nm R X F h k n (pc) L (.int x :: .ref a :: st) := R_put (T := TX0) (ci := 0) (i := 0) (ty := tyX0) hd kw61 rfl inXW0 tyX0_ok nmX0 (by decide) rfl rfl rfl ha (show 0 < 3 by decide) (kk _ rfl (hput_at h a _))
theorem PN_X1_247 {a : Nat} {fs : List Value} {x : Int32} (hd : decode cc pc = .ok (.putfield 247, 3)) (hl : 0 < fs.length) (ha : h.2 a = some (.inr (0, fs))) (kk : ∀ h1 : AH, h1 = hput h a (.inr (0, fs.set 0 (.int x))) → h1.2 a = some (.inr (0, fs.set 0 (.int x))) → Run l D cA N0 RX1 cc nL ret nm R X F h1 k n (pc + 3) L (st)) : Run l D cA N0 RX1 cc nL ret nm R X F h k n (pc) L (.int x :: .ref a :: st) := R_put (T := TX0) (ci := 0) (i := 0) (ty := tyX0) hd kw61 rfl inXW0 tyX0_ok nmX0 (by decide) rfl rfl rfl ha hl (kk _ rfl (hput_at h a _))
theorem G_X3_13 {a : Nat} {A : Nat → Nat} {Fv : Nat → Int32} (hd : decode cc pc = .ok (.getfield 13, 3)) (ha : h.2 a = some (.inr (2, ob2 A Fv))) (kk : Run l D cA N0 RX3 cc nL ret nm R X F h k n (pc + 3) L (.ref (A 0) :: st)) : Run l D cA N0 RX3 cc nL ret nm R X F h k n (pc) L (.ref a :: st) := R_get (T := TX3) (ci := 2) (i := 0) hd kw185 rfl inXW2 (by decide) ha rfl kk
theorem GN_X3_13 {a : Nat} {fs : List Value} {v : Value} (hd : decode cc pc = .ok (.getfield 13, 3)) (ha : h.2 a = some (.inr (2, fs))) (hv : fs[0]? = some v) (kk : Run l D cA N0 RX3 cc nL ret nm R X F h k n (pc + 3) L (v :: st)) : Run l D cA N0 RX3 cc nL ret nm R X F h k n (pc) L (.ref a :: st) := R_get (T := TX3) (ci := 2) (i := 0) hd kw185 rfl inXW2 (by decide) ha hv kk
theorem PN_X3_13 {a : Nat} {b : Nat} {fs : List Value} (hd : decode cc pc = .ok (.putfield 13, 3)) (hnm : nm = "<init>") (hl : 0 < fs.length) (ha : h.2 a = some (.inr (2, fs))) (kk : ∀ h1 : AH, h1 = hput h a (.inr (2, fs.set 0 (.ref b))) → h1.2 a = some (.inr (2, fs.set 0 (.ref b))) → Run l D cA N0 RX3 cc nL ret nm R X F h1 k n (pc + 3) L (st)) : Run l D cA N0 RX3 cc nL ret nm R X F h k n (pc) L (.ref b :: .ref a :: st) := R_putF (T := TX3) (ci := 2) (i := 0) (ty := tyX3) hd kw185 rfl inXW2 tyX3_ok nmX3 (by decide) rfl hnm rfl rfl rfl ha hl (kk _ rfl (hput_at h a _))
theorem G_X3_18 {a : Nat} {A : Nat → Nat} {Fv : Nat → Int32} (hd : decode cc pc = .ok (.getfield 18, 3)) (ha : h.2 a = some (.inr (2, ob2 A Fv))) (kk : Run l D cA N0 RX3 cc nL ret nm R X F h k n (pc + 3) L (.ref (A 1) :: st)) : Run l D cA N0 RX3 cc nL ret nm R X F h k n (pc) L (.ref a :: st) := R_get (T := TX3) (ci := 2) (i := 1) hd kw186 rfl inXW2 (by decide) ha rfl kk
theorem GN_X3_18 {a : Nat} {fs : List Value} {v : Value} (hd : decode cc pc = .ok (.getfield 18, 3)) (ha : h.2 a = some (.inr (2, fs))) (hv : fs[1]? = some v) (kk : Run l D cA N0 RX3 cc nL ret nm R X F h k n (pc + 3) L (v :: st)) : Run l D cA N0 RX3 cc nL ret nm R X F h k n (pc) L (.ref a :: st) := R_get (T := TX3) (ci := 2) (i := 1) hd kw186 rfl inXW2 (by decide) ha hv kk
theorem P_X3_18 {a b : Nat} {A : Nat → Nat} {Fv : Nat → Int32} (hd : decode cc pc = .ok (.putfield 18, 3)) (ha : h.2 a = some (.inr (2, ob2 A Fv))) (kk : ∀ h1 : AH, h1 = hput h a (.inr (2, ob2 (va_up A 1 b) Fv)) → h1.2 a = some (.inr (2, ob2 (va_up A 1 b) Fv)) → Run l D cA N0 RX3 cc nL ret nm R X F h1 k n (pc + 3) L (st)) : Run l D cA N0 RX3 cc nL ret nm R X F h k n (pc) L (.ref b :: .ref a :: st) := R_put (T := TX3) (ci := 2) (i := 1) (ty := tyX3) hd kw186 rfl inXW2 tyX3_ok nmX3 (by decide) rfl rfl rfl ha (show 1 < 3 by decide) (kk _ rfl (hput_at h a _))
theorem PN_X3_18 {a b : Nat} {fs : List Value} (hd : decode cc pc = .ok (.putfield 18, 3)) (hl : 1 < fs.length) (ha : h.2 a = some (.inr (2, fs))) (kk : ∀ h1 : AH, h1 = hput h a (.inr (2, fs.set 1 (.ref b))) → h1.2 a = some (.inr (2, fs.set 1 (.ref b))) → Run l D cA N0 RX3 cc nL ret nm R X F h1 k n (pc + 3) L (st)) : Run l D cA N0 RX3 cc nL ret nm R X F h k n (pc) L (.ref b :: .ref a :: st) := R_put (T := TX3) (ci := 2) (i := 1) (ty := tyX3) hd kw186 rfl inXW2 tyX3_ok nmX3 (by decide) rfl rfl rfl ha hl (kk _ rfl (hput_at h a _))
theorem G_X3_22 {a : Nat} {A : Nat → Nat} {Fv : Nat → Int32} (hd : decode cc pc = .ok (.getfield 22, 3)) (ha : h.2 a = some (.inr (2, ob2 A Fv))) (kk : Run l D cA N0 RX3 cc nL ret nm R X F h k n (pc + 3) L (.int (Fv 2) :: st)) : Run l D cA N0 RX3 cc nL ret nm R X F h k n (pc) L (.ref a :: st) := R_get (T := TX3) (ci := 2) (i := 2) hd kw187 rfl inXW2 (by decide) ha rfl kk
theorem GN_X3_22 {a : Nat} {fs : List Value} {v : Value} (hd : decode cc pc = .ok (.getfield 22, 3)) (ha : h.2 a = some (.inr (2, fs))) (hv : fs[2]? = some v) (kk : Run l D cA N0 RX3 cc nL ret nm R X F h k n (pc + 3) L (v :: st)) : Run l D cA N0 RX3 cc nL ret nm R X F h k n (pc) L (.ref a :: st) := R_get (T := TX3) (ci := 2) (i := 2) hd kw187 rfl inXW2 (by decide) ha hv kk
theorem P_X3_22 {a : Nat} {A : Nat → Nat} {Fv : Nat → Int32} {x : Int32} (hd : decode cc pc = .ok (.putfield 22, 3)) (ha : h.2 a = some (.inr (2, ob2 A Fv))) (kk : ∀ h1 : AH, h1 = hput h a (.inr (2, ob2 A (upd Fv 2 x))) → h1.2 a = some (.inr (2, ob2 A (upd Fv 2 x))) → Run l D cA N0 RX3 cc nL ret nm R X F h1 k n (pc + 3) L (st)) : Run l D cA N0 RX3 cc nL ret nm R X F h k n (pc) L (.int x :: .ref a :: st) := R_put (T := TX3) (ci := 2) (i := 2) (ty := tyX3) hd kw187 rfl inXW2 tyX3_ok nmX3 (by decide) rfl rfl rfl ha (show 2 < 3 by decide) (kk _ rfl (hput_at h a _))
theorem PN_X3_22 {a : Nat} {fs : List Value} {x : Int32} (hd : decode cc pc = .ok (.putfield 22, 3)) (hl : 2 < fs.length) (ha : h.2 a = some (.inr (2, fs))) (kk : ∀ h1 : AH, h1 = hput h a (.inr (2, fs.set 2 (.int x))) → h1.2 a = some (.inr (2, fs.set 2 (.int x))) → Run l D cA N0 RX3 cc nL ret nm R X F h1 k n (pc + 3) L (st)) : Run l D cA N0 RX3 cc nL ret nm R X F h k n (pc) L (.int x :: .ref a :: st) := R_put (T := TX3) (ci := 2) (i := 2) (ty := tyX3) hd kw187 rfl inXW2 tyX3_ok nmX3 (by decide) rfl rfl rfl ha hl (kk _ rfl (hput_at h a _))
theorem G_X4_11 {a : Nat} {A : Nat → Nat} {Fv : Nat → Int32} (hd : decode cc pc = .ok (.getfield 11, 3)) (ha : h.2 a = some (.inr (3, ob3 A Fv))) (kk : Run l D cA N0 RX4 cc nL ret nm R X F h k n (pc + 3) L (.ref (A 0) :: st)) : Run l D cA N0 RX4 cc nL ret nm R X F h k n (pc) L (.ref a :: st) := R_get (T := TX4) (ci := 3) (i := 0) hd kw201 rfl inXW3 (by decide) ha rfl kk
theorem GN_X4_11 {a : Nat} {fs : List Value} {v : Value} (hd : decode cc pc = .ok (.getfield 11, 3)) (ha : h.2 a = some (.inr (3, fs))) (hv : fs[0]? = some v) (kk : Run l D cA N0 RX4 cc nL ret nm R X F h k n (pc + 3) L (v :: st)) : Run l D cA N0 RX4 cc nL ret nm R X F h k n (pc) L (.ref a :: st) := R_get (T := TX4) (ci := 3) (i := 0) hd kw201 rfl inXW3 (by decide) ha hv kk
theorem PN_X4_11 {a : Nat} {b : Nat} {fs : List Value} (hd : decode cc pc = .ok (.putfield 11, 3)) (hnm : nm = "<init>") (hl : 0 < fs.length) (ha : h.2 a = some (.inr (3, fs))) (kk : ∀ h1 : AH, h1 = hput h a (.inr (3, fs.set 0 (.ref b))) → h1.2 a = some (.inr (3, fs.set 0 (.ref b))) → Run l D cA N0 RX4 cc nL ret nm R X F h1 k n (pc + 3) L (st)) : Run l D cA N0 RX4 cc nL ret nm R X F h k n (pc) L (.ref b :: .ref a :: st) := R_putF (T := TX4) (ci := 3) (i := 0) (ty := tyX4) hd kw201 rfl inXW3 tyX4_ok nmX4 (by decide) rfl hnm rfl rfl rfl ha hl (kk _ rfl (hput_at h a _))
theorem G_X4_15 {a : Nat} {A : Nat → Nat} {Fv : Nat → Int32} (hd : decode cc pc = .ok (.getfield 15, 3)) (ha : h.2 a = some (.inr (3, ob3 A Fv))) (kk : Run l D cA N0 RX4 cc nL ret nm R X F h k n (pc + 3) L (.int (Fv 1) :: st)) : Run l D cA N0 RX4 cc nL ret nm R X F h k n (pc) L (.ref a :: st) := R_get (T := TX4) (ci := 3) (i := 1) hd kw202 rfl inXW3 (by decide) ha rfl kk
theorem GN_X4_15 {a : Nat} {fs : List Value} {v : Value} (hd : decode cc pc = .ok (.getfield 15, 3)) (ha : h.2 a = some (.inr (3, fs))) (hv : fs[1]? = some v) (kk : Run l D cA N0 RX4 cc nL ret nm R X F h k n (pc + 3) L (v :: st)) : Run l D cA N0 RX4 cc nL ret nm R X F h k n (pc) L (.ref a :: st) := R_get (T := TX4) (ci := 3) (i := 1) hd kw202 rfl inXW3 (by decide) ha hv kk
theorem P_X4_15 {a : Nat} {A : Nat → Nat} {Fv : Nat → Int32} {x : Int32} (hd : decode cc pc = .ok (.putfield 15, 3)) (ha : h.2 a = some (.inr (3, ob3 A Fv))) (kk : ∀ h1 : AH, h1 = hput h a (.inr (3, ob3 A (upd Fv 1 x))) → h1.2 a = some (.inr (3, ob3 A (upd Fv 1 x))) → Run l D cA N0 RX4 cc nL ret nm R X F h1 k n (pc + 3) L (st)) : Run l D cA N0 RX4 cc nL ret nm R X F h k n (pc) L (.int x :: .ref a :: st) := R_put (T := TX4) (ci := 3) (i := 1) (ty := tyX4) hd kw202 rfl inXW3 tyX4_ok nmX4 (by decide) rfl rfl rfl ha (show 1 < 7 by decide) (kk _ rfl (hput_at h a _))
theorem PN_X4_15 {a : Nat} {fs : List Value} {x : Int32} (hd : decode cc pc = .ok (.putfield 15, 3)) (hl : 1 < fs.length) (ha : h.2 a = some (.inr (3, fs))) (kk : ∀ h1 : AH, h1 = hput h a (.inr (3, fs.set 1 (.int x))) → h1.2 a = some (.inr (3, fs.set 1 (.int x))) → Run l D cA N0 RX4 cc nL ret nm R X F h1 k n (pc + 3) L (st)) : Run l D cA N0 RX4 cc nL ret nm R X F h k n (pc) L (.int x :: .ref a :: st) := R_put (T := TX4) (ci := 3) (i := 1) (ty := tyX4) hd kw202 rfl inXW3 tyX4_ok nmX4 (by decide) rfl rfl rfl ha hl (kk _ rfl (hput_at h a _))
theorem G_X6_13 {a : Nat} {A : Nat → Nat} {Fv : Nat → Int32} (hd : decode cc pc = .ok (.getfield 13, 3)) (ha : h.2 a = some (.inr (4, ob4 A Fv))) (kk : Run l D cA N0 RX6 cc nL ret nm R X F h k n (pc + 3) L (.ref (A 0) :: st)) : Run l D cA N0 RX6 cc nL ret nm R X F h k n (pc) L (.ref a :: st) := R_get (T := TX6) (ci := 4) (i := 0) hd kw224 rfl inXW4 (by decide) ha rfl kk
theorem GN_X6_13 {a : Nat} {fs : List Value} {v : Value} (hd : decode cc pc = .ok (.getfield 13, 3)) (ha : h.2 a = some (.inr (4, fs))) (hv : fs[0]? = some v) (kk : Run l D cA N0 RX6 cc nL ret nm R X F h k n (pc + 3) L (v :: st)) : Run l D cA N0 RX6 cc nL ret nm R X F h k n (pc) L (.ref a :: st) := R_get (T := TX6) (ci := 4) (i := 0) hd kw224 rfl inXW4 (by decide) ha hv kk
theorem PN_X6_13 {a : Nat} {b : Nat} {fs : List Value} (hd : decode cc pc = .ok (.putfield 13, 3)) (hnm : nm = "<init>") (hl : 0 < fs.length) (ha : h.2 a = some (.inr (4, fs))) (kk : ∀ h1 : AH, h1 = hput h a (.inr (4, fs.set 0 (.ref b))) → h1.2 a = some (.inr (4, fs.set 0 (.ref b))) → Run l D cA N0 RX6 cc nL ret nm R X F h1 k n (pc + 3) L (st)) : Run l D cA N0 RX6 cc nL ret nm R X F h k n (pc) L (.ref b :: .ref a :: st) := R_putF (T := TX6) (ci := 4) (i := 0) (ty := tyX6) hd kw224 rfl inXW4 tyX6_ok nmX6 (by decide) rfl hnm rfl rfl rfl ha hl (kk _ rfl (hput_at h a _))
theorem G_X6_17 {a : Nat} {A : Nat → Nat} {Fv : Nat → Int32} (hd : decode cc pc = .ok (.getfield 17, 3)) (ha : h.2 a = some (.inr (4, ob4 A Fv))) (kk : Run l D cA N0 RX6 cc nL ret nm R X F h k n (pc + 3) L (.ref (A 1) :: st)) : Run l D cA N0 RX6 cc nL ret nm R X F h k n (pc) L (.ref a :: st) := R_get (T := TX6) (ci := 4) (i := 1) hd kw225 rfl inXW4 (by decide) ha rfl kk
theorem GN_X6_17 {a : Nat} {fs : List Value} {v : Value} (hd : decode cc pc = .ok (.getfield 17, 3)) (ha : h.2 a = some (.inr (4, fs))) (hv : fs[1]? = some v) (kk : Run l D cA N0 RX6 cc nL ret nm R X F h k n (pc + 3) L (v :: st)) : Run l D cA N0 RX6 cc nL ret nm R X F h k n (pc) L (.ref a :: st) := R_get (T := TX6) (ci := 4) (i := 1) hd kw225 rfl inXW4 (by decide) ha hv kk
theorem PN_X6_17 {a : Nat} {b : Nat} {fs : List Value} (hd : decode cc pc = .ok (.putfield 17, 3)) (hnm : nm = "<init>") (hl : 1 < fs.length) (ha : h.2 a = some (.inr (4, fs))) (kk : ∀ h1 : AH, h1 = hput h a (.inr (4, fs.set 1 (.ref b))) → h1.2 a = some (.inr (4, fs.set 1 (.ref b))) → Run l D cA N0 RX6 cc nL ret nm R X F h1 k n (pc + 3) L (st)) : Run l D cA N0 RX6 cc nL ret nm R X F h k n (pc) L (.ref b :: .ref a :: st) := R_putF (T := TX6) (ci := 4) (i := 1) (ty := tyX6) hd kw225 rfl inXW4 tyX6_ok nmX6 (by decide) rfl hnm rfl rfl rfl ha hl (kk _ rfl (hput_at h a _))
theorem G_X6_20 {a : Nat} {A : Nat → Nat} {Fv : Nat → Int32} (hd : decode cc pc = .ok (.getfield 20, 3)) (ha : h.2 a = some (.inr (4, ob4 A Fv))) (kk : Run l D cA N0 RX6 cc nL ret nm R X F h k n (pc + 3) L (.ref (A 2) :: st)) : Run l D cA N0 RX6 cc nL ret nm R X F h k n (pc) L (.ref a :: st) := R_get (T := TX6) (ci := 4) (i := 2) hd kw226 rfl inXW4 (by decide) ha rfl kk
theorem GN_X6_20 {a : Nat} {fs : List Value} {v : Value} (hd : decode cc pc = .ok (.getfield 20, 3)) (ha : h.2 a = some (.inr (4, fs))) (hv : fs[2]? = some v) (kk : Run l D cA N0 RX6 cc nL ret nm R X F h k n (pc + 3) L (v :: st)) : Run l D cA N0 RX6 cc nL ret nm R X F h k n (pc) L (.ref a :: st) := R_get (T := TX6) (ci := 4) (i := 2) hd kw226 rfl inXW4 (by decide) ha hv kk
theorem PN_X6_20 {a : Nat} {b : Nat} {fs : List Value} (hd : decode cc pc = .ok (.putfield 20, 3)) (hnm : nm = "<init>") (hl : 2 < fs.length) (ha : h.2 a = some (.inr (4, fs))) (kk : ∀ h1 : AH, h1 = hput h a (.inr (4, fs.set 2 (.ref b))) → h1.2 a = some (.inr (4, fs.set 2 (.ref b))) → Run l D cA N0 RX6 cc nL ret nm R X F h1 k n (pc + 3) L (st)) : Run l D cA N0 RX6 cc nL ret nm R X F h k n (pc) L (.ref b :: .ref a :: st) := R_putF (T := TX6) (ci := 4) (i := 2) (ty := tyX6) hd kw226 rfl inXW4 tyX6_ok nmX6 (by decide) rfl hnm rfl rfl rfl ha hl (kk _ rfl (hput_at h a _))
theorem G_X6_29 {a : Nat} {A : Nat → Nat} {Fv : Nat → Int32} (hd : decode cc pc = .ok (.getfield 29, 3)) (ha : h.2 a = some (.inr (4, ob4 A Fv))) (kk : Run l D cA N0 RX6 cc nL ret nm R X F h k n (pc + 3) L (.int (Fv 3) :: st)) : Run l D cA N0 RX6 cc nL ret nm R X F h k n (pc) L (.ref a :: st) := R_get (T := TX6) (ci := 4) (i := 3) hd kw227 rfl inXW4 (by decide) ha rfl kk
theorem GN_X6_29 {a : Nat} {fs : List Value} {v : Value} (hd : decode cc pc = .ok (.getfield 29, 3)) (ha : h.2 a = some (.inr (4, fs))) (hv : fs[3]? = some v) (kk : Run l D cA N0 RX6 cc nL ret nm R X F h k n (pc + 3) L (v :: st)) : Run l D cA N0 RX6 cc nL ret nm R X F h k n (pc) L (.ref a :: st) := R_get (T := TX6) (ci := 4) (i := 3) hd kw227 rfl inXW4 (by decide) ha hv kk
theorem P_X6_29 {a : Nat} {A : Nat → Nat} {Fv : Nat → Int32} {x : Int32} (hd : decode cc pc = .ok (.putfield 29, 3)) (ha : h.2 a = some (.inr (4, ob4 A Fv))) (kk : ∀ h1 : AH, h1 = hput h a (.inr (4, ob4 A (upd Fv 3 x))) → h1.2 a = some (.inr (4, ob4 A (upd Fv 3 x))) → Run l D cA N0 RX6 cc nL ret nm R X F h1 k n (pc + 3) L (st)) : Run l D cA N0 RX6 cc nL ret nm R X F h k n (pc) L (.int x :: .ref a :: st) := R_put (T := TX6) (ci := 4) (i := 3) (ty := tyX6) hd kw227 rfl inXW4 tyX6_ok nmX6 (by decide) rfl rfl rfl ha (show 3 < 4 by decide) (kk _ rfl (hput_at h a _))
theorem PN_X6_29 {a : Nat} {fs : List Value} {x : Int32} (hd : decode cc pc = .ok (.putfield 29, 3)) (hl : 3 < fs.length) (ha : h.2 a = some (.inr (4, fs))) (kk : ∀ h1 : AH, h1 = hput h a (.inr (4, fs.set 3 (.int x))) → h1.2 a = some (.inr (4, fs.set 3 (.int x))) → Run l D cA N0 RX6 cc nL ret nm R X F h1 k n (pc + 3) L (st)) : Run l D cA N0 RX6 cc nL ret nm R X F h k n (pc) L (.int x :: .ref a :: st) := R_put (T := TX6) (ci := 4) (i := 3) (ty := tyX6) hd kw227 rfl inXW4 tyX6_ok nmX6 (by decide) rfl rfl rfl ha hl (kk _ rfl (hput_at h a _))
theorem G_X6_33 {a : Nat} {A : Nat → Nat} {Fv : Nat → Int32} (hd : decode cc pc = .ok (.getfield 33, 3)) (ha : h.2 a = some (.inr (5, ob5 A Fv))) (kk : Run l D cA N0 RX6 cc nL ret nm R X F h k n (pc + 3) L (.int (Fv 2) :: st)) : Run l D cA N0 RX6 cc nL ret nm R X F h k n (pc) L (.ref a :: st) := R_get (T := TX7) (ci := 5) (i := 2) hd kw84 rfl inXW5 (by decide) ha rfl kk
theorem GN_X6_33 {a : Nat} {fs : List Value} {v : Value} (hd : decode cc pc = .ok (.getfield 33, 3)) (ha : h.2 a = some (.inr (5, fs))) (hv : fs[2]? = some v) (kk : Run l D cA N0 RX6 cc nL ret nm R X F h k n (pc + 3) L (v :: st)) : Run l D cA N0 RX6 cc nL ret nm R X F h k n (pc) L (.ref a :: st) := R_get (T := TX7) (ci := 5) (i := 2) hd kw84 rfl inXW5 (by decide) ha hv kk
theorem P_X6_33 {a : Nat} {A : Nat → Nat} {Fv : Nat → Int32} {x : Int32} (hd : decode cc pc = .ok (.putfield 33, 3)) (ha : h.2 a = some (.inr (5, ob5 A Fv))) (kk : ∀ h1 : AH, h1 = hput h a (.inr (5, ob5 A (upd Fv 2 x))) → h1.2 a = some (.inr (5, ob5 A (upd Fv 2 x))) → Run l D cA N0 RX6 cc nL ret nm R X F h1 k n (pc + 3) L (st)) : Run l D cA N0 RX6 cc nL ret nm R X F h k n (pc) L (.int x :: .ref a :: st) := R_put (T := TX7) (ci := 5) (i := 2) (ty := tyX7) hd kw84 rfl inXW5 tyX7_ok nmX7 (by decide) rfl rfl rfl ha (show 2 < 12 by decide) (kk _ rfl (hput_at h a _))
theorem PN_X6_33 {a : Nat} {fs : List Value} {x : Int32} (hd : decode cc pc = .ok (.putfield 33, 3)) (hl : 2 < fs.length) (ha : h.2 a = some (.inr (5, fs))) (kk : ∀ h1 : AH, h1 = hput h a (.inr (5, fs.set 2 (.int x))) → h1.2 a = some (.inr (5, fs.set 2 (.int x))) → Run l D cA N0 RX6 cc nL ret nm R X F h1 k n (pc + 3) L (st)) : Run l D cA N0 RX6 cc nL ret nm R X F h k n (pc) L (.int x :: .ref a :: st) := R_put (T := TX7) (ci := 5) (i := 2) (ty := tyX7) hd kw84 rfl inXW5 tyX7_ok nmX7 (by decide) rfl rfl rfl ha hl (kk _ rfl (hput_at h a _))
theorem G_X6_38 {a : Nat} {A : Nat → Nat} {Fv : Nat → Int32} (hd : decode cc pc = .ok (.getfield 38, 3)) (ha : h.2 a = some (.inr (5, ob5 A Fv))) (kk : Run l D cA N0 RX6 cc nL ret nm R X F h k n (pc + 3) L (.int (Fv 3) :: st)) : Run l D cA N0 RX6 cc nL ret nm R X F h k n (pc) L (.ref a :: st) := R_get (T := TX7) (ci := 5) (i := 3) hd kw87 rfl inXW5 (by decide) ha rfl kk
theorem GN_X6_38 {a : Nat} {fs : List Value} {v : Value} (hd : decode cc pc = .ok (.getfield 38, 3)) (ha : h.2 a = some (.inr (5, fs))) (hv : fs[3]? = some v) (kk : Run l D cA N0 RX6 cc nL ret nm R X F h k n (pc + 3) L (v :: st)) : Run l D cA N0 RX6 cc nL ret nm R X F h k n (pc) L (.ref a :: st) := R_get (T := TX7) (ci := 5) (i := 3) hd kw87 rfl inXW5 (by decide) ha hv kk
theorem P_X6_38 {a : Nat} {A : Nat → Nat} {Fv : Nat → Int32} {x : Int32} (hd : decode cc pc = .ok (.putfield 38, 3)) (ha : h.2 a = some (.inr (5, ob5 A Fv))) (kk : ∀ h1 : AH, h1 = hput h a (.inr (5, ob5 A (upd Fv 3 x))) → h1.2 a = some (.inr (5, ob5 A (upd Fv 3 x))) → Run l D cA N0 RX6 cc nL ret nm R X F h1 k n (pc + 3) L (st)) : Run l D cA N0 RX6 cc nL ret nm R X F h k n (pc) L (.int x :: .ref a :: st) := R_put (T := TX7) (ci := 5) (i := 3) (ty := tyX7) hd kw87 rfl inXW5 tyX7_ok nmX7 (by decide) rfl rfl rfl ha (show 3 < 12 by decide) (kk _ rfl (hput_at h a _))
theorem PN_X6_38 {a : Nat} {fs : List Value} {x : Int32} (hd : decode cc pc = .ok (.putfield 38, 3)) (hl : 3 < fs.length) (ha : h.2 a = some (.inr (5, fs))) (kk : ∀ h1 : AH, h1 = hput h a (.inr (5, fs.set 3 (.int x))) → h1.2 a = some (.inr (5, fs.set 3 (.int x))) → Run l D cA N0 RX6 cc nL ret nm R X F h1 k n (pc + 3) L (st)) : Run l D cA N0 RX6 cc nL ret nm R X F h k n (pc) L (.int x :: .ref a :: st) := R_put (T := TX7) (ci := 5) (i := 3) (ty := tyX7) hd kw87 rfl inXW5 tyX7_ok nmX7 (by decide) rfl rfl rfl ha hl (kk _ rfl (hput_at h a _))
theorem G_X7_9 {a : Nat} {A : Nat → Nat} {Fv : Nat → Int32} (hd : decode cc pc = .ok (.getfield 9, 3)) (ha : h.2 a = some (.inr (5, ob5 A Fv))) (kk : Run l D cA N0 RX7 cc nL ret nm R X F h k n (pc + 3) L (.int (Fv 8) :: st)) : Run l D cA N0 RX7 cc nL ret nm R X F h k n (pc) L (.ref a :: st) := R_get (T := TX7) (ci := 5) (i := 8) hd kw98 rfl inXW5 (by decide) ha rfl kk
theorem GN_X7_9 {a : Nat} {fs : List Value} {v : Value} (hd : decode cc pc = .ok (.getfield 9, 3)) (ha : h.2 a = some (.inr (5, fs))) (hv : fs[8]? = some v) (kk : Run l D cA N0 RX7 cc nL ret nm R X F h k n (pc + 3) L (v :: st)) : Run l D cA N0 RX7 cc nL ret nm R X F h k n (pc) L (.ref a :: st) := R_get (T := TX7) (ci := 5) (i := 8) hd kw98 rfl inXW5 (by decide) ha hv kk
theorem P_X7_9 {a : Nat} {A : Nat → Nat} {Fv : Nat → Int32} {x : Int32} (hd : decode cc pc = .ok (.putfield 9, 3)) (ha : h.2 a = some (.inr (5, ob5 A Fv))) (kk : ∀ h1 : AH, h1 = hput h a (.inr (5, ob5 A (upd Fv 8 x))) → h1.2 a = some (.inr (5, ob5 A (upd Fv 8 x))) → Run l D cA N0 RX7 cc nL ret nm R X F h1 k n (pc + 3) L (st)) : Run l D cA N0 RX7 cc nL ret nm R X F h k n (pc) L (.int x :: .ref a :: st) := R_put (T := TX7) (ci := 5) (i := 8) (ty := tyX7) hd kw98 rfl inXW5 tyX7_ok nmX7 (by decide) rfl rfl rfl ha (show 8 < 12 by decide) (kk _ rfl (hput_at h a _))
theorem PN_X7_9 {a : Nat} {fs : List Value} {x : Int32} (hd : decode cc pc = .ok (.putfield 9, 3)) (hl : 8 < fs.length) (ha : h.2 a = some (.inr (5, fs))) (kk : ∀ h1 : AH, h1 = hput h a (.inr (5, fs.set 8 (.int x))) → h1.2 a = some (.inr (5, fs.set 8 (.int x))) → Run l D cA N0 RX7 cc nL ret nm R X F h1 k n (pc + 3) L (st)) : Run l D cA N0 RX7 cc nL ret nm R X F h k n (pc) L (.int x :: .ref a :: st) := R_put (T := TX7) (ci := 5) (i := 8) (ty := tyX7) hd kw98 rfl inXW5 tyX7_ok nmX7 (by decide) rfl rfl rfl ha hl (kk _ rfl (hput_at h a _))
theorem G_X7_15 {a : Nat} {A : Nat → Nat} {Fv : Nat → Int32} (hd : decode cc pc = .ok (.getfield 15, 3)) (ha : h.2 a = some (.inr (5, ob5 A Fv))) (kk : Run l D cA N0 RX7 cc nL ret nm R X F h k n (pc + 3) L (.int (Fv 0) :: st)) : Run l D cA N0 RX7 cc nL ret nm R X F h k n (pc) L (.ref a :: st) := R_get (T := TX7) (ci := 5) (i := 0) hd kw80 rfl inXW5 (by decide) ha rfl kk
theorem GN_X7_15 {a : Nat} {fs : List Value} {v : Value} (hd : decode cc pc = .ok (.getfield 15, 3)) (ha : h.2 a = some (.inr (5, fs))) (hv : fs[0]? = some v) (kk : Run l D cA N0 RX7 cc nL ret nm R X F h k n (pc + 3) L (v :: st)) : Run l D cA N0 RX7 cc nL ret nm R X F h k n (pc) L (.ref a :: st) := R_get (T := TX7) (ci := 5) (i := 0) hd kw80 rfl inXW5 (by decide) ha hv kk
theorem PN_X7_15 {a : Nat} {x : Int32} {fs : List Value} (hd : decode cc pc = .ok (.putfield 15, 3)) (hnm : nm = "<init>") (hl : 0 < fs.length) (ha : h.2 a = some (.inr (5, fs))) (kk : ∀ h1 : AH, h1 = hput h a (.inr (5, fs.set 0 (.int x))) → h1.2 a = some (.inr (5, fs.set 0 (.int x))) → Run l D cA N0 RX7 cc nL ret nm R X F h1 k n (pc + 3) L (st)) : Run l D cA N0 RX7 cc nL ret nm R X F h k n (pc) L (.int x :: .ref a :: st) := R_putF (T := TX7) (ci := 5) (i := 0) (ty := tyX7) hd kw80 rfl inXW5 tyX7_ok nmX7 (by decide) rfl hnm rfl rfl rfl ha hl (kk _ rfl (hput_at h a _))
theorem G_X7_18 {a : Nat} {A : Nat → Nat} {Fv : Nat → Int32} (hd : decode cc pc = .ok (.getfield 18, 3)) (ha : h.2 a = some (.inr (5, ob5 A Fv))) (kk : Run l D cA N0 RX7 cc nL ret nm R X F h k n (pc + 3) L (.int (Fv 1) :: st)) : Run l D cA N0 RX7 cc nL ret nm R X F h k n (pc) L (.ref a :: st) := R_get (T := TX7) (ci := 5) (i := 1) hd kw82 rfl inXW5 (by decide) ha rfl kk
theorem GN_X7_18 {a : Nat} {fs : List Value} {v : Value} (hd : decode cc pc = .ok (.getfield 18, 3)) (ha : h.2 a = some (.inr (5, fs))) (hv : fs[1]? = some v) (kk : Run l D cA N0 RX7 cc nL ret nm R X F h k n (pc + 3) L (v :: st)) : Run l D cA N0 RX7 cc nL ret nm R X F h k n (pc) L (.ref a :: st) := R_get (T := TX7) (ci := 5) (i := 1) hd kw82 rfl inXW5 (by decide) ha hv kk
theorem P_X7_18 {a : Nat} {A : Nat → Nat} {Fv : Nat → Int32} {x : Int32} (hd : decode cc pc = .ok (.putfield 18, 3)) (ha : h.2 a = some (.inr (5, ob5 A Fv))) (kk : ∀ h1 : AH, h1 = hput h a (.inr (5, ob5 A (upd Fv 1 x))) → h1.2 a = some (.inr (5, ob5 A (upd Fv 1 x))) → Run l D cA N0 RX7 cc nL ret nm R X F h1 k n (pc + 3) L (st)) : Run l D cA N0 RX7 cc nL ret nm R X F h k n (pc) L (.int x :: .ref a :: st) := R_put (T := TX7) (ci := 5) (i := 1) (ty := tyX7) hd kw82 rfl inXW5 tyX7_ok nmX7 (by decide) rfl rfl rfl ha (show 1 < 12 by decide) (kk _ rfl (hput_at h a _))
theorem PN_X7_18 {a : Nat} {fs : List Value} {x : Int32} (hd : decode cc pc = .ok (.putfield 18, 3)) (hl : 1 < fs.length) (ha : h.2 a = some (.inr (5, fs))) (kk : ∀ h1 : AH, h1 = hput h a (.inr (5, fs.set 1 (.int x))) → h1.2 a = some (.inr (5, fs.set 1 (.int x))) → Run l D cA N0 RX7 cc nL ret nm R X F h1 k n (pc + 3) L (st)) : Run l D cA N0 RX7 cc nL ret nm R X F h k n (pc) L (.int x :: .ref a :: st) := R_put (T := TX7) (ci := 5) (i := 1) (ty := tyX7) hd kw82 rfl inXW5 tyX7_ok nmX7 (by decide) rfl rfl rfl ha hl (kk _ rfl (hput_at h a _))
theorem G_X7_21 {a : Nat} {A : Nat → Nat} {Fv : Nat → Int32} (hd : decode cc pc = .ok (.getfield 21, 3)) (ha : h.2 a = some (.inr (5, ob5 A Fv))) (kk : Run l D cA N0 RX7 cc nL ret nm R X F h k n (pc + 3) L (.int (Fv 2) :: st)) : Run l D cA N0 RX7 cc nL ret nm R X F h k n (pc) L (.ref a :: st) := R_get (T := TX7) (ci := 5) (i := 2) hd kw85 rfl inXW5 (by decide) ha rfl kk
theorem GN_X7_21 {a : Nat} {fs : List Value} {v : Value} (hd : decode cc pc = .ok (.getfield 21, 3)) (ha : h.2 a = some (.inr (5, fs))) (hv : fs[2]? = some v) (kk : Run l D cA N0 RX7 cc nL ret nm R X F h k n (pc + 3) L (v :: st)) : Run l D cA N0 RX7 cc nL ret nm R X F h k n (pc) L (.ref a :: st) := R_get (T := TX7) (ci := 5) (i := 2) hd kw85 rfl inXW5 (by decide) ha hv kk
theorem P_X7_21 {a : Nat} {A : Nat → Nat} {Fv : Nat → Int32} {x : Int32} (hd : decode cc pc = .ok (.putfield 21, 3)) (ha : h.2 a = some (.inr (5, ob5 A Fv))) (kk : ∀ h1 : AH, h1 = hput h a (.inr (5, ob5 A (upd Fv 2 x))) → h1.2 a = some (.inr (5, ob5 A (upd Fv 2 x))) → Run l D cA N0 RX7 cc nL ret nm R X F h1 k n (pc + 3) L (st)) : Run l D cA N0 RX7 cc nL ret nm R X F h k n (pc) L (.int x :: .ref a :: st) := R_put (T := TX7) (ci := 5) (i := 2) (ty := tyX7) hd kw85 rfl inXW5 tyX7_ok nmX7 (by decide) rfl rfl rfl ha (show 2 < 12 by decide) (kk _ rfl (hput_at h a _))
theorem PN_X7_21 {a : Nat} {fs : List Value} {x : Int32} (hd : decode cc pc = .ok (.putfield 21, 3)) (hl : 2 < fs.length) (ha : h.2 a = some (.inr (5, fs))) (kk : ∀ h1 : AH, h1 = hput h a (.inr (5, fs.set 2 (.int x))) → h1.2 a = some (.inr (5, fs.set 2 (.int x))) → Run l D cA N0 RX7 cc nL ret nm R X F h1 k n (pc + 3) L (st)) : Run l D cA N0 RX7 cc nL ret nm R X F h k n (pc) L (.int x :: .ref a :: st) := R_put (T := TX7) (ci := 5) (i := 2) (ty := tyX7) hd kw85 rfl inXW5 tyX7_ok nmX7 (by decide) rfl rfl rfl ha hl (kk _ rfl (hput_at h a _))
theorem G_X7_24 {a : Nat} {A : Nat → Nat} {Fv : Nat → Int32} (hd : decode cc pc = .ok (.getfield 24, 3)) (ha : h.2 a = some (.inr (5, ob5 A Fv))) (kk : Run l D cA N0 RX7 cc nL ret nm R X F h k n (pc + 3) L (.int (Fv 3) :: st)) : Run l D cA N0 RX7 cc nL ret nm R X F h k n (pc) L (.ref a :: st) := R_get (T := TX7) (ci := 5) (i := 3) hd kw88 rfl inXW5 (by decide) ha rfl kk
theorem GN_X7_24 {a : Nat} {fs : List Value} {v : Value} (hd : decode cc pc = .ok (.getfield 24, 3)) (ha : h.2 a = some (.inr (5, fs))) (hv : fs[3]? = some v) (kk : Run l D cA N0 RX7 cc nL ret nm R X F h k n (pc + 3) L (v :: st)) : Run l D cA N0 RX7 cc nL ret nm R X F h k n (pc) L (.ref a :: st) := R_get (T := TX7) (ci := 5) (i := 3) hd kw88 rfl inXW5 (by decide) ha hv kk
theorem P_X7_24 {a : Nat} {A : Nat → Nat} {Fv : Nat → Int32} {x : Int32} (hd : decode cc pc = .ok (.putfield 24, 3)) (ha : h.2 a = some (.inr (5, ob5 A Fv))) (kk : ∀ h1 : AH, h1 = hput h a (.inr (5, ob5 A (upd Fv 3 x))) → h1.2 a = some (.inr (5, ob5 A (upd Fv 3 x))) → Run l D cA N0 RX7 cc nL ret nm R X F h1 k n (pc + 3) L (st)) : Run l D cA N0 RX7 cc nL ret nm R X F h k n (pc) L (.int x :: .ref a :: st) := R_put (T := TX7) (ci := 5) (i := 3) (ty := tyX7) hd kw88 rfl inXW5 tyX7_ok nmX7 (by decide) rfl rfl rfl ha (show 3 < 12 by decide) (kk _ rfl (hput_at h a _))
theorem PN_X7_24 {a : Nat} {fs : List Value} {x : Int32} (hd : decode cc pc = .ok (.putfield 24, 3)) (hl : 3 < fs.length) (ha : h.2 a = some (.inr (5, fs))) (kk : ∀ h1 : AH, h1 = hput h a (.inr (5, fs.set 3 (.int x))) → h1.2 a = some (.inr (5, fs.set 3 (.int x))) → Run l D cA N0 RX7 cc nL ret nm R X F h1 k n (pc + 3) L (st)) : Run l D cA N0 RX7 cc nL ret nm R X F h k n (pc) L (.int x :: .ref a :: st) := R_put (T := TX7) (ci := 5) (i := 3) (ty := tyX7) hd kw88 rfl inXW5 tyX7_ok nmX7 (by decide) rfl rfl rfl ha hl (kk _ rfl (hput_at h a _))
theorem G_X7_27 {a : Nat} {A : Nat → Nat} {Fv : Nat → Int32} (hd : decode cc pc = .ok (.getfield 27, 3)) (ha : h.2 a = some (.inr (5, ob5 A Fv))) (kk : Run l D cA N0 RX7 cc nL ret nm R X F h k n (pc + 3) L (.int (Fv 4) :: st)) : Run l D cA N0 RX7 cc nL ret nm R X F h k n (pc) L (.ref a :: st) := R_get (T := TX7) (ci := 5) (i := 4) hd kw90 rfl inXW5 (by decide) ha rfl kk
theorem GN_X7_27 {a : Nat} {fs : List Value} {v : Value} (hd : decode cc pc = .ok (.getfield 27, 3)) (ha : h.2 a = some (.inr (5, fs))) (hv : fs[4]? = some v) (kk : Run l D cA N0 RX7 cc nL ret nm R X F h k n (pc + 3) L (v :: st)) : Run l D cA N0 RX7 cc nL ret nm R X F h k n (pc) L (.ref a :: st) := R_get (T := TX7) (ci := 5) (i := 4) hd kw90 rfl inXW5 (by decide) ha hv kk
theorem P_X7_27 {a : Nat} {A : Nat → Nat} {Fv : Nat → Int32} {x : Int32} (hd : decode cc pc = .ok (.putfield 27, 3)) (ha : h.2 a = some (.inr (5, ob5 A Fv))) (kk : ∀ h1 : AH, h1 = hput h a (.inr (5, ob5 A (upd Fv 4 x))) → h1.2 a = some (.inr (5, ob5 A (upd Fv 4 x))) → Run l D cA N0 RX7 cc nL ret nm R X F h1 k n (pc + 3) L (st)) : Run l D cA N0 RX7 cc nL ret nm R X F h k n (pc) L (.int x :: .ref a :: st) := R_put (T := TX7) (ci := 5) (i := 4) (ty := tyX7) hd kw90 rfl inXW5 tyX7_ok nmX7 (by decide) rfl rfl rfl ha (show 4 < 12 by decide) (kk _ rfl (hput_at h a _))
theorem PN_X7_27 {a : Nat} {fs : List Value} {x : Int32} (hd : decode cc pc = .ok (.putfield 27, 3)) (hl : 4 < fs.length) (ha : h.2 a = some (.inr (5, fs))) (kk : ∀ h1 : AH, h1 = hput h a (.inr (5, fs.set 4 (.int x))) → h1.2 a = some (.inr (5, fs.set 4 (.int x))) → Run l D cA N0 RX7 cc nL ret nm R X F h1 k n (pc + 3) L (st)) : Run l D cA N0 RX7 cc nL ret nm R X F h k n (pc) L (.int x :: .ref a :: st) := R_put (T := TX7) (ci := 5) (i := 4) (ty := tyX7) hd kw90 rfl inXW5 tyX7_ok nmX7 (by decide) rfl rfl rfl ha hl (kk _ rfl (hput_at h a _))
theorem G_X7_30 {a : Nat} {A : Nat → Nat} {Fv : Nat → Int32} (hd : decode cc pc = .ok (.getfield 30, 3)) (ha : h.2 a = some (.inr (5, ob5 A Fv))) (kk : Run l D cA N0 RX7 cc nL ret nm R X F h k n (pc + 3) L (.int (Fv 5) :: st)) : Run l D cA N0 RX7 cc nL ret nm R X F h k n (pc) L (.ref a :: st) := R_get (T := TX7) (ci := 5) (i := 5) hd kw92 rfl inXW5 (by decide) ha rfl kk
theorem GN_X7_30 {a : Nat} {fs : List Value} {v : Value} (hd : decode cc pc = .ok (.getfield 30, 3)) (ha : h.2 a = some (.inr (5, fs))) (hv : fs[5]? = some v) (kk : Run l D cA N0 RX7 cc nL ret nm R X F h k n (pc + 3) L (v :: st)) : Run l D cA N0 RX7 cc nL ret nm R X F h k n (pc) L (.ref a :: st) := R_get (T := TX7) (ci := 5) (i := 5) hd kw92 rfl inXW5 (by decide) ha hv kk
theorem P_X7_30 {a : Nat} {A : Nat → Nat} {Fv : Nat → Int32} {x : Int32} (hd : decode cc pc = .ok (.putfield 30, 3)) (ha : h.2 a = some (.inr (5, ob5 A Fv))) (kk : ∀ h1 : AH, h1 = hput h a (.inr (5, ob5 A (upd Fv 5 x))) → h1.2 a = some (.inr (5, ob5 A (upd Fv 5 x))) → Run l D cA N0 RX7 cc nL ret nm R X F h1 k n (pc + 3) L (st)) : Run l D cA N0 RX7 cc nL ret nm R X F h k n (pc) L (.int x :: .ref a :: st) := R_put (T := TX7) (ci := 5) (i := 5) (ty := tyX7) hd kw92 rfl inXW5 tyX7_ok nmX7 (by decide) rfl rfl rfl ha (show 5 < 12 by decide) (kk _ rfl (hput_at h a _))
theorem PN_X7_30 {a : Nat} {fs : List Value} {x : Int32} (hd : decode cc pc = .ok (.putfield 30, 3)) (hl : 5 < fs.length) (ha : h.2 a = some (.inr (5, fs))) (kk : ∀ h1 : AH, h1 = hput h a (.inr (5, fs.set 5 (.int x))) → h1.2 a = some (.inr (5, fs.set 5 (.int x))) → Run l D cA N0 RX7 cc nL ret nm R X F h1 k n (pc + 3) L (st)) : Run l D cA N0 RX7 cc nL ret nm R X F h k n (pc) L (.int x :: .ref a :: st) := R_put (T := TX7) (ci := 5) (i := 5) (ty := tyX7) hd kw92 rfl inXW5 tyX7_ok nmX7 (by decide) rfl rfl rfl ha hl (kk _ rfl (hput_at h a _))
theorem G_X7_33 {a : Nat} {A : Nat → Nat} {Fv : Nat → Int32} (hd : decode cc pc = .ok (.getfield 33, 3)) (ha : h.2 a = some (.inr (5, ob5 A Fv))) (kk : Run l D cA N0 RX7 cc nL ret nm R X F h k n (pc + 3) L (.int (Fv 6) :: st)) : Run l D cA N0 RX7 cc nL ret nm R X F h k n (pc) L (.ref a :: st) := R_get (T := TX7) (ci := 5) (i := 6) hd kw94 rfl inXW5 (by decide) ha rfl kk
theorem GN_X7_33 {a : Nat} {fs : List Value} {v : Value} (hd : decode cc pc = .ok (.getfield 33, 3)) (ha : h.2 a = some (.inr (5, fs))) (hv : fs[6]? = some v) (kk : Run l D cA N0 RX7 cc nL ret nm R X F h k n (pc + 3) L (v :: st)) : Run l D cA N0 RX7 cc nL ret nm R X F h k n (pc) L (.ref a :: st) := R_get (T := TX7) (ci := 5) (i := 6) hd kw94 rfl inXW5 (by decide) ha hv kk
theorem P_X7_33 {a : Nat} {A : Nat → Nat} {Fv : Nat → Int32} {x : Int32} (hd : decode cc pc = .ok (.putfield 33, 3)) (ha : h.2 a = some (.inr (5, ob5 A Fv))) (kk : ∀ h1 : AH, h1 = hput h a (.inr (5, ob5 A (upd Fv 6 x))) → h1.2 a = some (.inr (5, ob5 A (upd Fv 6 x))) → Run l D cA N0 RX7 cc nL ret nm R X F h1 k n (pc + 3) L (st)) : Run l D cA N0 RX7 cc nL ret nm R X F h k n (pc) L (.int x :: .ref a :: st) := R_put (T := TX7) (ci := 5) (i := 6) (ty := tyX7) hd kw94 rfl inXW5 tyX7_ok nmX7 (by decide) rfl rfl rfl ha (show 6 < 12 by decide) (kk _ rfl (hput_at h a _))
theorem PN_X7_33 {a : Nat} {fs : List Value} {x : Int32} (hd : decode cc pc = .ok (.putfield 33, 3)) (hl : 6 < fs.length) (ha : h.2 a = some (.inr (5, fs))) (kk : ∀ h1 : AH, h1 = hput h a (.inr (5, fs.set 6 (.int x))) → h1.2 a = some (.inr (5, fs.set 6 (.int x))) → Run l D cA N0 RX7 cc nL ret nm R X F h1 k n (pc + 3) L (st)) : Run l D cA N0 RX7 cc nL ret nm R X F h k n (pc) L (.int x :: .ref a :: st) := R_put (T := TX7) (ci := 5) (i := 6) (ty := tyX7) hd kw94 rfl inXW5 tyX7_ok nmX7 (by decide) rfl rfl rfl ha hl (kk _ rfl (hput_at h a _))
theorem G_X7_36 {a : Nat} {A : Nat → Nat} {Fv : Nat → Int32} (hd : decode cc pc = .ok (.getfield 36, 3)) (ha : h.2 a = some (.inr (5, ob5 A Fv))) (kk : Run l D cA N0 RX7 cc nL ret nm R X F h k n (pc + 3) L (.int (Fv 7) :: st)) : Run l D cA N0 RX7 cc nL ret nm R X F h k n (pc) L (.ref a :: st) := R_get (T := TX7) (ci := 5) (i := 7) hd kw96 rfl inXW5 (by decide) ha rfl kk
theorem GN_X7_36 {a : Nat} {fs : List Value} {v : Value} (hd : decode cc pc = .ok (.getfield 36, 3)) (ha : h.2 a = some (.inr (5, fs))) (hv : fs[7]? = some v) (kk : Run l D cA N0 RX7 cc nL ret nm R X F h k n (pc + 3) L (v :: st)) : Run l D cA N0 RX7 cc nL ret nm R X F h k n (pc) L (.ref a :: st) := R_get (T := TX7) (ci := 5) (i := 7) hd kw96 rfl inXW5 (by decide) ha hv kk
theorem P_X7_36 {a : Nat} {A : Nat → Nat} {Fv : Nat → Int32} {x : Int32} (hd : decode cc pc = .ok (.putfield 36, 3)) (ha : h.2 a = some (.inr (5, ob5 A Fv))) (kk : ∀ h1 : AH, h1 = hput h a (.inr (5, ob5 A (upd Fv 7 x))) → h1.2 a = some (.inr (5, ob5 A (upd Fv 7 x))) → Run l D cA N0 RX7 cc nL ret nm R X F h1 k n (pc + 3) L (st)) : Run l D cA N0 RX7 cc nL ret nm R X F h k n (pc) L (.int x :: .ref a :: st) := R_put (T := TX7) (ci := 5) (i := 7) (ty := tyX7) hd kw96 rfl inXW5 tyX7_ok nmX7 (by decide) rfl rfl rfl ha (show 7 < 12 by decide) (kk _ rfl (hput_at h a _))
theorem PN_X7_36 {a : Nat} {fs : List Value} {x : Int32} (hd : decode cc pc = .ok (.putfield 36, 3)) (hl : 7 < fs.length) (ha : h.2 a = some (.inr (5, fs))) (kk : ∀ h1 : AH, h1 = hput h a (.inr (5, fs.set 7 (.int x))) → h1.2 a = some (.inr (5, fs.set 7 (.int x))) → Run l D cA N0 RX7 cc nL ret nm R X F h1 k n (pc + 3) L (st)) : Run l D cA N0 RX7 cc nL ret nm R X F h k n (pc) L (.int x :: .ref a :: st) := R_put (T := TX7) (ci := 5) (i := 7) (ty := tyX7) hd kw96 rfl inXW5 tyX7_ok nmX7 (by decide) rfl rfl rfl ha hl (kk _ rfl (hput_at h a _))
theorem G_X7_39 {a : Nat} {A : Nat → Nat} {Fv : Nat → Int32} (hd : decode cc pc = .ok (.getfield 39, 3)) (ha : h.2 a = some (.inr (5, ob5 A Fv))) (kk : Run l D cA N0 RX7 cc nL ret nm R X F h k n (pc + 3) L (.int (Fv 9) :: st)) : Run l D cA N0 RX7 cc nL ret nm R X F h k n (pc) L (.ref a :: st) := R_get (T := TX7) (ci := 5) (i := 9) hd kw100 rfl inXW5 (by decide) ha rfl kk
theorem GN_X7_39 {a : Nat} {fs : List Value} {v : Value} (hd : decode cc pc = .ok (.getfield 39, 3)) (ha : h.2 a = some (.inr (5, fs))) (hv : fs[9]? = some v) (kk : Run l D cA N0 RX7 cc nL ret nm R X F h k n (pc + 3) L (v :: st)) : Run l D cA N0 RX7 cc nL ret nm R X F h k n (pc) L (.ref a :: st) := R_get (T := TX7) (ci := 5) (i := 9) hd kw100 rfl inXW5 (by decide) ha hv kk
theorem P_X7_39 {a : Nat} {A : Nat → Nat} {Fv : Nat → Int32} {x : Int32} (hd : decode cc pc = .ok (.putfield 39, 3)) (ha : h.2 a = some (.inr (5, ob5 A Fv))) (kk : ∀ h1 : AH, h1 = hput h a (.inr (5, ob5 A (upd Fv 9 x))) → h1.2 a = some (.inr (5, ob5 A (upd Fv 9 x))) → Run l D cA N0 RX7 cc nL ret nm R X F h1 k n (pc + 3) L (st)) : Run l D cA N0 RX7 cc nL ret nm R X F h k n (pc) L (.int x :: .ref a :: st) := R_put (T := TX7) (ci := 5) (i := 9) (ty := tyX7) hd kw100 rfl inXW5 tyX7_ok nmX7 (by decide) rfl rfl rfl ha (show 9 < 12 by decide) (kk _ rfl (hput_at h a _))
theorem PN_X7_39 {a : Nat} {fs : List Value} {x : Int32} (hd : decode cc pc = .ok (.putfield 39, 3)) (hl : 9 < fs.length) (ha : h.2 a = some (.inr (5, fs))) (kk : ∀ h1 : AH, h1 = hput h a (.inr (5, fs.set 9 (.int x))) → h1.2 a = some (.inr (5, fs.set 9 (.int x))) → Run l D cA N0 RX7 cc nL ret nm R X F h1 k n (pc + 3) L (st)) : Run l D cA N0 RX7 cc nL ret nm R X F h k n (pc) L (.int x :: .ref a :: st) := R_put (T := TX7) (ci := 5) (i := 9) (ty := tyX7) hd kw100 rfl inXW5 tyX7_ok nmX7 (by decide) rfl rfl rfl ha hl (kk _ rfl (hput_at h a _))
theorem G_X7_42 {a : Nat} {A : Nat → Nat} {Fv : Nat → Int32} (hd : decode cc pc = .ok (.getfield 42, 3)) (ha : h.2 a = some (.inr (5, ob5 A Fv))) (kk : Run l D cA N0 RX7 cc nL ret nm R X F h k n (pc + 3) L (.int (Fv 10) :: st)) : Run l D cA N0 RX7 cc nL ret nm R X F h k n (pc) L (.ref a :: st) := R_get (T := TX7) (ci := 5) (i := 10) hd kw101 rfl inXW5 (by decide) ha rfl kk
theorem GN_X7_42 {a : Nat} {fs : List Value} {v : Value} (hd : decode cc pc = .ok (.getfield 42, 3)) (ha : h.2 a = some (.inr (5, fs))) (hv : fs[10]? = some v) (kk : Run l D cA N0 RX7 cc nL ret nm R X F h k n (pc + 3) L (v :: st)) : Run l D cA N0 RX7 cc nL ret nm R X F h k n (pc) L (.ref a :: st) := R_get (T := TX7) (ci := 5) (i := 10) hd kw101 rfl inXW5 (by decide) ha hv kk
theorem P_X7_42 {a : Nat} {A : Nat → Nat} {Fv : Nat → Int32} {x : Int32} (hd : decode cc pc = .ok (.putfield 42, 3)) (ha : h.2 a = some (.inr (5, ob5 A Fv))) (kk : ∀ h1 : AH, h1 = hput h a (.inr (5, ob5 A (upd Fv 10 x))) → h1.2 a = some (.inr (5, ob5 A (upd Fv 10 x))) → Run l D cA N0 RX7 cc nL ret nm R X F h1 k n (pc + 3) L (st)) : Run l D cA N0 RX7 cc nL ret nm R X F h k n (pc) L (.int x :: .ref a :: st) := R_put (T := TX7) (ci := 5) (i := 10) (ty := tyX7) hd kw101 rfl inXW5 tyX7_ok nmX7 (by decide) rfl rfl rfl ha (show 10 < 12 by decide) (kk _ rfl (hput_at h a _))
theorem PN_X7_42 {a : Nat} {fs : List Value} {x : Int32} (hd : decode cc pc = .ok (.putfield 42, 3)) (hl : 10 < fs.length) (ha : h.2 a = some (.inr (5, fs))) (kk : ∀ h1 : AH, h1 = hput h a (.inr (5, fs.set 10 (.int x))) → h1.2 a = some (.inr (5, fs.set 10 (.int x))) → Run l D cA N0 RX7 cc nL ret nm R X F h1 k n (pc + 3) L (st)) : Run l D cA N0 RX7 cc nL ret nm R X F h k n (pc) L (.int x :: .ref a :: st) := R_put (T := TX7) (ci := 5) (i := 10) (ty := tyX7) hd kw101 rfl inXW5 tyX7_ok nmX7 (by decide) rfl rfl rfl ha hl (kk _ rfl (hput_at h a _))
theorem G_X7_45 {a : Nat} {A : Nat → Nat} {Fv : Nat → Int32} (hd : decode cc pc = .ok (.getfield 45, 3)) (ha : h.2 a = some (.inr (5, ob5 A Fv))) (kk : Run l D cA N0 RX7 cc nL ret nm R X F h k n (pc + 3) L (.int (Fv 11) :: st)) : Run l D cA N0 RX7 cc nL ret nm R X F h k n (pc) L (.ref a :: st) := R_get (T := TX7) (ci := 5) (i := 11) hd kw102 rfl inXW5 (by decide) ha rfl kk
theorem GN_X7_45 {a : Nat} {fs : List Value} {v : Value} (hd : decode cc pc = .ok (.getfield 45, 3)) (ha : h.2 a = some (.inr (5, fs))) (hv : fs[11]? = some v) (kk : Run l D cA N0 RX7 cc nL ret nm R X F h k n (pc + 3) L (v :: st)) : Run l D cA N0 RX7 cc nL ret nm R X F h k n (pc) L (.ref a :: st) := R_get (T := TX7) (ci := 5) (i := 11) hd kw102 rfl inXW5 (by decide) ha hv kk
theorem P_X7_45 {a : Nat} {A : Nat → Nat} {Fv : Nat → Int32} {x : Int32} (hd : decode cc pc = .ok (.putfield 45, 3)) (ha : h.2 a = some (.inr (5, ob5 A Fv))) (kk : ∀ h1 : AH, h1 = hput h a (.inr (5, ob5 A (upd Fv 11 x))) → h1.2 a = some (.inr (5, ob5 A (upd Fv 11 x))) → Run l D cA N0 RX7 cc nL ret nm R X F h1 k n (pc + 3) L (st)) : Run l D cA N0 RX7 cc nL ret nm R X F h k n (pc) L (.int x :: .ref a :: st) := R_put (T := TX7) (ci := 5) (i := 11) (ty := tyX7) hd kw102 rfl inXW5 tyX7_ok nmX7 (by decide) rfl rfl rfl ha (show 11 < 12 by decide) (kk _ rfl (hput_at h a _))
theorem PN_X7_45 {a : Nat} {fs : List Value} {x : Int32} (hd : decode cc pc = .ok (.putfield 45, 3)) (hl : 11 < fs.length) (ha : h.2 a = some (.inr (5, fs))) (kk : ∀ h1 : AH, h1 = hput h a (.inr (5, fs.set 11 (.int x))) → h1.2 a = some (.inr (5, fs.set 11 (.int x))) → Run l D cA N0 RX7 cc nL ret nm R X F h1 k n (pc + 3) L (st)) : Run l D cA N0 RX7 cc nL ret nm R X F h k n (pc) L (.int x :: .ref a :: st) := R_put (T := TX7) (ci := 5) (i := 11) (ty := tyX7) hd kw102 rfl inXW5 tyX7_ok nmX7 (by decide) rfl rfl rfl ha hl (kk _ rfl (hput_at h a _))
theorem G_X8_12 {a : Nat} {A : Nat → Nat} {Fv : Nat → Int32} (hd : decode cc pc = .ok (.getfield 12, 3)) (ha : h.2 a = some (.inr (6, ob6 A Fv))) (kk : Run l D cA N0 RX8 cc nL ret nm R X F h k n (pc + 3) L (.ref (A 0) :: st)) : Run l D cA N0 RX8 cc nL ret nm R X F h k n (pc) L (.ref a :: st) := R_get (T := TX8) (ci := 6) (i := 0) hd kw161 rfl inXW6 (by decide) ha rfl kk
theorem GN_X8_12 {a : Nat} {fs : List Value} {v : Value} (hd : decode cc pc = .ok (.getfield 12, 3)) (ha : h.2 a = some (.inr (6, fs))) (hv : fs[0]? = some v) (kk : Run l D cA N0 RX8 cc nL ret nm R X F h k n (pc + 3) L (v :: st)) : Run l D cA N0 RX8 cc nL ret nm R X F h k n (pc) L (.ref a :: st) := R_get (T := TX8) (ci := 6) (i := 0) hd kw161 rfl inXW6 (by decide) ha hv kk
theorem PN_X8_12 {a : Nat} {b : Nat} {fs : List Value} (hd : decode cc pc = .ok (.putfield 12, 3)) (hnm : nm = "<init>") (hl : 0 < fs.length) (ha : h.2 a = some (.inr (6, fs))) (kk : ∀ h1 : AH, h1 = hput h a (.inr (6, fs.set 0 (.ref b))) → h1.2 a = some (.inr (6, fs.set 0 (.ref b))) → Run l D cA N0 RX8 cc nL ret nm R X F h1 k n (pc + 3) L (st)) : Run l D cA N0 RX8 cc nL ret nm R X F h k n (pc) L (.ref b :: .ref a :: st) := R_putF (T := TX8) (ci := 6) (i := 0) (ty := tyX8) hd kw161 rfl inXW6 tyX8_ok nmX8 (by decide) rfl hnm rfl rfl rfl ha hl (kk _ rfl (hput_at h a _))
theorem G_X8_18 {a : Nat} {A : Nat → Nat} {Fv : Nat → Int32} (hd : decode cc pc = .ok (.getfield 18, 3)) (ha : h.2 a = some (.inr (6, ob6 A Fv))) (kk : Run l D cA N0 RX8 cc nL ret nm R X F h k n (pc + 3) L (.ref (A 1) :: st)) : Run l D cA N0 RX8 cc nL ret nm R X F h k n (pc) L (.ref a :: st) := R_get (T := TX8) (ci := 6) (i := 1) hd kw163 rfl inXW6 (by decide) ha rfl kk
theorem GN_X8_18 {a : Nat} {fs : List Value} {v : Value} (hd : decode cc pc = .ok (.getfield 18, 3)) (ha : h.2 a = some (.inr (6, fs))) (hv : fs[1]? = some v) (kk : Run l D cA N0 RX8 cc nL ret nm R X F h k n (pc + 3) L (v :: st)) : Run l D cA N0 RX8 cc nL ret nm R X F h k n (pc) L (.ref a :: st) := R_get (T := TX8) (ci := 6) (i := 1) hd kw163 rfl inXW6 (by decide) ha hv kk
theorem PN_X8_18 {a : Nat} {b : Nat} {fs : List Value} (hd : decode cc pc = .ok (.putfield 18, 3)) (hnm : nm = "<init>") (hl : 1 < fs.length) (ha : h.2 a = some (.inr (6, fs))) (kk : ∀ h1 : AH, h1 = hput h a (.inr (6, fs.set 1 (.ref b))) → h1.2 a = some (.inr (6, fs.set 1 (.ref b))) → Run l D cA N0 RX8 cc nL ret nm R X F h1 k n (pc + 3) L (st)) : Run l D cA N0 RX8 cc nL ret nm R X F h k n (pc) L (.ref b :: .ref a :: st) := R_putF (T := TX8) (ci := 6) (i := 1) (ty := tyX8) hd kw163 rfl inXW6 tyX8_ok nmX8 (by decide) rfl hnm rfl rfl rfl ha hl (kk _ rfl (hput_at h a _))
theorem G_X8_21 {a : Nat} {A : Nat → Nat} {Fv : Nat → Int32} (hd : decode cc pc = .ok (.getfield 21, 3)) (ha : h.2 a = some (.inr (6, ob6 A Fv))) (kk : Run l D cA N0 RX8 cc nL ret nm R X F h k n (pc + 3) L (.ref (A 2) :: st)) : Run l D cA N0 RX8 cc nL ret nm R X F h k n (pc) L (.ref a :: st) := R_get (T := TX8) (ci := 6) (i := 2) hd kw164 rfl inXW6 (by decide) ha rfl kk
theorem GN_X8_21 {a : Nat} {fs : List Value} {v : Value} (hd : decode cc pc = .ok (.getfield 21, 3)) (ha : h.2 a = some (.inr (6, fs))) (hv : fs[2]? = some v) (kk : Run l D cA N0 RX8 cc nL ret nm R X F h k n (pc + 3) L (v :: st)) : Run l D cA N0 RX8 cc nL ret nm R X F h k n (pc) L (.ref a :: st) := R_get (T := TX8) (ci := 6) (i := 2) hd kw164 rfl inXW6 (by decide) ha hv kk
theorem PN_X8_21 {a : Nat} {b : Nat} {fs : List Value} (hd : decode cc pc = .ok (.putfield 21, 3)) (hnm : nm = "<init>") (hl : 2 < fs.length) (ha : h.2 a = some (.inr (6, fs))) (kk : ∀ h1 : AH, h1 = hput h a (.inr (6, fs.set 2 (.ref b))) → h1.2 a = some (.inr (6, fs.set 2 (.ref b))) → Run l D cA N0 RX8 cc nL ret nm R X F h1 k n (pc + 3) L (st)) : Run l D cA N0 RX8 cc nL ret nm R X F h k n (pc) L (.ref b :: .ref a :: st) := R_putF (T := TX8) (ci := 6) (i := 2) (ty := tyX8) hd kw164 rfl inXW6 tyX8_ok nmX8 (by decide) rfl hnm rfl rfl rfl ha hl (kk _ rfl (hput_at h a _))
theorem G_X8_28 {a : Nat} {A : Nat → Nat} {Fv : Nat → Int32} (hd : decode cc pc = .ok (.getfield 28, 3)) (ha : h.2 a = some (.inr (6, ob6 A Fv))) (kk : Run l D cA N0 RX8 cc nL ret nm R X F h k n (pc + 3) L (.int (Fv 3) :: st)) : Run l D cA N0 RX8 cc nL ret nm R X F h k n (pc) L (.ref a :: st) := R_get (T := TX8) (ci := 6) (i := 3) hd kw165 rfl inXW6 (by decide) ha rfl kk
theorem GN_X8_28 {a : Nat} {fs : List Value} {v : Value} (hd : decode cc pc = .ok (.getfield 28, 3)) (ha : h.2 a = some (.inr (6, fs))) (hv : fs[3]? = some v) (kk : Run l D cA N0 RX8 cc nL ret nm R X F h k n (pc + 3) L (v :: st)) : Run l D cA N0 RX8 cc nL ret nm R X F h k n (pc) L (.ref a :: st) := R_get (T := TX8) (ci := 6) (i := 3) hd kw165 rfl inXW6 (by decide) ha hv kk
theorem P_X8_28 {a : Nat} {A : Nat → Nat} {Fv : Nat → Int32} {x : Int32} (hd : decode cc pc = .ok (.putfield 28, 3)) (ha : h.2 a = some (.inr (6, ob6 A Fv))) (kk : ∀ h1 : AH, h1 = hput h a (.inr (6, ob6 A (upd Fv 3 x))) → h1.2 a = some (.inr (6, ob6 A (upd Fv 3 x))) → Run l D cA N0 RX8 cc nL ret nm R X F h1 k n (pc + 3) L (st)) : Run l D cA N0 RX8 cc nL ret nm R X F h k n (pc) L (.int x :: .ref a :: st) := R_put (T := TX8) (ci := 6) (i := 3) (ty := tyX8) hd kw165 rfl inXW6 tyX8_ok nmX8 (by decide) rfl rfl rfl ha (show 3 < 4 by decide) (kk _ rfl (hput_at h a _))
theorem PN_X8_28 {a : Nat} {fs : List Value} {x : Int32} (hd : decode cc pc = .ok (.putfield 28, 3)) (hl : 3 < fs.length) (ha : h.2 a = some (.inr (6, fs))) (kk : ∀ h1 : AH, h1 = hput h a (.inr (6, fs.set 3 (.int x))) → h1.2 a = some (.inr (6, fs.set 3 (.int x))) → Run l D cA N0 RX8 cc nL ret nm R X F h1 k n (pc + 3) L (st)) : Run l D cA N0 RX8 cc nL ret nm R X F h k n (pc) L (.int x :: .ref a :: st) := R_put (T := TX8) (ci := 6) (i := 3) (ty := tyX8) hd kw165 rfl inXW6 tyX8_ok nmX8 (by decide) rfl rfl rfl ha hl (kk _ rfl (hput_at h a _))
theorem R_swG {dflt lo hi : Int} {offs : Array Int} {len : Nat} {x : Int32} (tgt : Nat) (hd : decode cc pc = .ok (.tableswitch dflt lo hi offs, len)) (ht : (pc : Int) + dflt = (tgt : Int)) (ko : x.toInt < lo ∨ hi < x.toInt → Run l D cA N0 own cc nL ret nm R X F h k n (tgt) L (st)) (ki : ¬ x.toInt < lo → ¬ hi < x.toInt → Run l D cA N0 own cc nL ret nm R X F h k n (pc) L (.int x :: st)) : Run l D cA N0 own cc nL ret nm R X F h k n (pc) L (.int x :: st) := by
  by_cases c1 : x.toInt < lo
  · exact R_tableOut tgt hd (Or.inl c1) ht (ko (Or.inl c1))
  · by_cases c2 : hi < x.toInt
    · exact R_tableOut tgt hd (Or.inr c2) ht (ko (Or.inr c2))
    · exact ki c1 c2
theorem R_swE {dflt lo hi off : Int} {offs : Array Int} {len : Nat} {x v : Int32} (tgt : Nat) (hd : decode cc pc = .ok (.tableswitch dflt lo hi offs, len)) (he : x = v) (h1 : ¬ v.toInt < lo) (h2 : ¬ hi < v.toInt) (ho : offs[(v.toInt - lo).toNat]? = some off) (ht : (pc : Int) + off = (tgt : Int)) (kk : Run l D cA N0 own cc nL ret nm R X F h k n (tgt) L (st)) : Run l D cA N0 own cc nL ret nm R X F h k n (pc) L (.int x :: st) := by
  subst he
  exact R_tableIn tgt hd h1 h2 ho ht kk
end FR
theorem sw_0_4 (x : Int32) (h1 : ¬ x.toInt < 0) (h2 : ¬ 4 < x.toInt) : x = 0 ∨ x = 1 ∨ x = 2 ∨ x = 3 ∨ x = 4 := by
  rw [sw_q x 0 0 (by decide), sw_q x 1 1 (by decide), sw_q x 2 2 (by decide), sw_q x 3 3 (by decide), sw_q x 4 4 (by decide)]
  omega
theorem sw_0_5 (x : Int32) (h1 : ¬ x.toInt < 0) (h2 : ¬ 5 < x.toInt) : x = 0 ∨ x = 1 ∨ x = 2 ∨ x = 3 ∨ x = 4 ∨ x = 5 := by
  rw [sw_q x 0 0 (by decide), sw_q x 1 1 (by decide), sw_q x 2 2 (by decide), sw_q x 3 3 (by decide), sw_q x 4 4 (by decide), sw_q x 5 5 (by decide)]
  omega
theorem sw_0_8 (x : Int32) (h1 : ¬ x.toInt < 0) (h2 : ¬ 8 < x.toInt) : x = 0 ∨ x = 1 ∨ x = 2 ∨ x = 3 ∨ x = 4 ∨ x = 5 ∨ x = 6 ∨ x = 7 ∨ x = 8 := by
  rw [sw_q x 0 0 (by decide), sw_q x 1 1 (by decide), sw_q x 2 2 (by decide), sw_q x 3 3 (by decide), sw_q x 4 4 (by decide), sw_q x 5 5 (by decide), sw_q x 6 6 (by decide), sw_q x 7 7 (by decide), sw_q x 8 8 (by decide)]
  omega
theorem sw_0_10 (x : Int32) (h1 : ¬ x.toInt < 0) (h2 : ¬ 10 < x.toInt) : x = 0 ∨ x = 1 ∨ x = 2 ∨ x = 3 ∨ x = 4 ∨ x = 5 ∨ x = 6 ∨ x = 7 ∨ x = 8 ∨ x = 9 ∨ x = 10 := by
  rw [sw_q x 0 0 (by decide), sw_q x 1 1 (by decide), sw_q x 2 2 (by decide), sw_q x 3 3 (by decide), sw_q x 4 4 (by decide), sw_q x 5 5 (by decide), sw_q x 6 6 (by decide), sw_q x 7 7 (by decide), sw_q x 8 8 (by decide), sw_q x 9 9 (by decide), sw_q x 10 10 (by decide)]
  omega
theorem sw_9_11 (x : Int32) (h1 : ¬ x.toInt < 9) (h2 : ¬ 11 < x.toInt) : x = 9 ∨ x = 10 ∨ x = 11 := by
  rw [sw_q x 9 9 (by decide), sw_q x 10 10 (by decide), sw_q x 11 11 (by decide)]
  omega
theorem nst_X9_9 : ∀ U : State, Nst U → va_Nw (.methodLinkNest RX9 9 yX8_init RX9) U := fun U hU => hU.1
theorem nst_X1_17 : ∀ U : State, Nst U → va_Nw (.methodLinkNest RX1 17 yX0_init RX9) U := fun U hU => hU.2.1
theorem nst_X3_17 : ∀ U : State, Nst U → va_Nw (.methodLinkNest RX3 17 yX8_init RX9) U := fun U hU => hU.2.2.1
theorem nst_X9_25 : ∀ U : State, Nst U → va_Nw (.methodLinkNest RX9 25 yX4_init RX9) U := fun U hU => hU.2.2.2.1
theorem nst_X9_32 : ∀ U : State, Nst U → va_Nw (.methodLinkNest RX9 32 yX6_init RX9) U := fun U hU => hU.2.2.2.2.1
end
