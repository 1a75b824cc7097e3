-- ===== PART A: goes FIRST, ahead of the names: the tables' words, and 'selects' of the private methods out of them =====
/-- a private method of a class that the tables say can be made, by its rows of tables_1 -/
def lw_okq (q : MethodName × Nat) : Prop := (q.1.cls ≠ "java/lang/invoke/MethodHandle" ∧ q.1.cls ≠ "java/lang/invoke/VarHandle") ∧ Cond.instantiable q.1.cls q.2 ∈ tables_1 ∧ Cond.privateMethod q.1 ∈ tables_1 ∧ Cond.instanceMethod q.1 ∈ tables_1
theorem lw_p0 : lw_okq (⟨"SnakeTrades$Search", "start", "(I)V"⟩, 3) := ⟨⟨by decide +kernel, by decide +kernel⟩, List.mem_of_getElem? (i := 187) (by decide +kernel), List.mem_of_getElem? (i := 295) (by decide +kernel), List.mem_of_getElem? (i := 296) (by decide +kernel)⟩
theorem lw_p1 : lw_okq (⟨"SnakeTrades$Search", "see", "(II)V"⟩, 3) := ⟨⟨by decide +kernel, by decide +kernel⟩, List.mem_of_getElem? (i := 187) (by decide +kernel), List.mem_of_getElem? (i := 299) (by decide +kernel), List.mem_of_getElem? (i := 300) (by decide +kernel)⟩
theorem lw_p2 : lw_okq (⟨"SnakeTrades$Search", "throwsAt", "(I)I"⟩, 3) := ⟨⟨by decide +kernel, by decide +kernel⟩, List.mem_of_getElem? (i := 187) (by decide +kernel), List.mem_of_getElem? (i := 303) (by decide +kernel), List.mem_of_getElem? (i := 304) (by decide +kernel)⟩
theorem lw_p3 : lw_okq (⟨"SnakeTrades$Search", "seeLandingsThatLeadTo", "(ILSnakeTrades$Race;)V"⟩, 3) := ⟨⟨by decide +kernel, by decide +kernel⟩, List.mem_of_getElem? (i := 187) (by decide +kernel), List.mem_of_getElem? (i := 322) (by decide +kernel), List.mem_of_getElem? (i := 323) (by decide +kernel)⟩
theorem lw_p4 : lw_okq (⟨"SnakeTrades$Search", "seeSquaresBefore", "(II)V"⟩, 3) := ⟨⟨by decide +kernel, by decide +kernel⟩, List.mem_of_getElem? (i := 187) (by decide +kernel), List.mem_of_getElem? (i := 327) (by decide +kernel), List.mem_of_getElem? (i := 328) (by decide +kernel)⟩
theorem lw_p5 : lw_okq (⟨"SnakeTrades$Race", "biteWith", "(LSnakeTrades$Snake;LSnakeTrades$Piece;I)V"⟩, 10) := ⟨⟨by decide +kernel, by decide +kernel⟩, List.mem_of_getElem? (i := 18) (by decide +kernel), List.mem_of_getElem? (i := 447) (by decide +kernel), List.mem_of_getElem? (i := 448) (by decide +kernel)⟩
theorem lw_p6 : lw_okq (⟨"SnakeTrades$Race", "shortenSleeps", "()V"⟩, 10) := ⟨⟨by decide +kernel, by decide +kernel⟩, List.mem_of_getElem? (i := 18) (by decide +kernel), List.mem_of_getElem? (i := 459) (by decide +kernel), List.mem_of_getElem? (i := 460) (by decide +kernel)⟩
theorem lw_p7 : lw_okq (⟨"SnakeTrades$Race", "moverAfter", "(I)I"⟩, 10) := ⟨⟨by decide +kernel, by decide +kernel⟩, List.mem_of_getElem? (i := 18) (by decide +kernel), List.mem_of_getElem? (i := 463) (by decide +kernel), List.mem_of_getElem? (i := 464) (by decide +kernel)⟩
theorem lw_p8 : lw_okq (⟨"SnakeTrades$Past", "dropOldest", "()V"⟩, 2) := ⟨⟨by decide +kernel, by decide +kernel⟩, List.mem_of_getElem? (i := 156) (by decide +kernel), List.mem_of_getElem? (i := 475) (by decide +kernel), List.mem_of_getElem? (i := 476) (by decide +kernel)⟩
theorem lw_p9 : lw_okq (⟨"SnakeTrades$Past", "stateAt", "(I)LSnakeTrades$Race;"⟩, 2) := ⟨⟨by decide +kernel, by decide +kernel⟩, List.mem_of_getElem? (i := 156) (by decide +kernel), List.mem_of_getElem? (i := 479) (by decide +kernel), List.mem_of_getElem? (i := 480) (by decide +kernel)⟩
def lw_privs_1 : List (MethodName × Nat) := [(⟨"SnakeTrades$Search", "start", "(I)V"⟩, 3), (⟨"SnakeTrades$Search", "see", "(II)V"⟩, 3), (⟨"SnakeTrades$Search", "throwsAt", "(I)I"⟩, 3), (⟨"SnakeTrades$Search", "seeLandingsThatLeadTo", "(ILSnakeTrades$Race;)V"⟩, 3), (⟨"SnakeTrades$Search", "seeSquaresBefore", "(II)V"⟩, 3), (⟨"SnakeTrades$Race", "biteWith", "(LSnakeTrades$Snake;LSnakeTrades$Piece;I)V"⟩, 10), (⟨"SnakeTrades$Race", "shortenSleeps", "()V"⟩, 10), (⟨"SnakeTrades$Race", "moverAfter", "(I)I"⟩, 10), (⟨"SnakeTrades$Past", "dropOldest", "()V"⟩, 2), (⟨"SnakeTrades$Past", "stateAt", "(I)LSnakeTrades$Race;"⟩, 2)]
theorem lw_r1 : ∀ q ∈ lw_privs_1, lw_okq q := List.forall_mem_cons.mpr ⟨lw_p0, List.forall_mem_cons.mpr ⟨lw_p1, List.forall_mem_cons.mpr ⟨lw_p2, List.forall_mem_cons.mpr ⟨lw_p3, List.forall_mem_cons.mpr ⟨lw_p4, List.forall_mem_cons.mpr ⟨lw_p5, List.forall_mem_cons.mpr ⟨lw_p6, List.forall_mem_cons.mpr ⟨lw_p7, List.forall_mem_cons.mpr ⟨lw_p8, List.forall_mem_cons.mpr ⟨lw_p9, fun _ h => absurd h List.not_mem_nil⟩⟩⟩⟩⟩⟩⟩⟩⟩⟩
def lw_privs : List (MethodName × Nat) := lw_privs_1
def lw_tbl : List Cond := k2_sels lw_privs ++ tables_1
theorem lw_privs_ok : ∀ q ∈ lw_privs, lw_okq q := lw_r1
/-- the streams that the claim lets the run draw from -/
abbrev lw_cs : List Choice := [Jvm.Choice.named "NaN.bits"]
theorem lw_bits : nanBits ∈ lw_cs := by first | decide | exact List.mem_cons_self | simp [lw_cs, nanBits]
def RX0 : String := "SnakeTrades$Bite"
def TX0 : u_T := fun k => match k with
  | 0 => ("SnakeTrades$Bite", "size", "I", false)
  | 1 => ("SnakeTrades$Bite", "timesSold", "I", false)
  | 2 => ("SnakeTrades$Bite", "bitten", "I", false)
  | _ => ("SnakeTrades$Bite", "holders", "I", false)
def tyX0 : Nat → FieldType := fun k => match k with
  | 0 => .int
  | 1 => .int
  | 2 => .int
  | _ => .int
theorem nmX0 : ∀ a, a < 4 → ∀ b, b < 4 → a ≠ b → (TX0 a).2.1 ≠ (TX0 b).2.1 := by decide +kernel
theorem tyX0_ok : ∀ k, k < 4 → parseFieldDescriptor (TX0 k).2.2.1 = some (tyX0 k) := by decide +kernel
abbrev cX0_init : ByteArray := prog_2_method_1_code
def yX0_init : MethodName := ⟨RX0, "<init>", "()V"⟩
abbrev cX0_begin : ByteArray := prog_2_method_2_code
def yX0_begin : MethodName := ⟨RX0, "begin", "(II)V"⟩
abbrev cX0_copyFrom : ByteArray := prog_2_method_3_code
def yX0_copyFrom : MethodName := ⟨RX0, "copyFrom", "(LSnakeTrades$Bite;)V"⟩
abbrev cX0_passTo : ByteArray := prog_2_method_4_code
def yX0_passTo : MethodName := ⟨RX0, "passTo", "(I)V"⟩
abbrev cX0_wasHeldBy : ByteArray := prog_2_method_5_code
def yX0_wasHeldBy : MethodName := ⟨RX0, "wasHeldBy", "(I)Z"⟩
def RX1 : String := "SnakeTrades$Past"
def TX1 : u_T := fun k => match k with
  | 0 => ("SnakeTrades$Past", "states", "[LSnakeTrades$Race;", true)
  | _ => ("SnakeTrades$Past", "held", "I", false)
def tyX1 : Nat → FieldType := fun k => match k with
  | 0 => .array (.object "SnakeTrades$Race")
  | _ => .int
theorem nmX1 : ∀ a, a < 2 → ∀ b, b < 2 → a ≠ b → (TX1 a).2.1 ≠ (TX1 b).2.1 := by decide +kernel
theorem tyX1_ok : ∀ k, k < 2 → parseFieldDescriptor (TX1 k).2.2.1 = some (tyX1 k) := by decide +kernel
abbrev cX1_init : ByteArray := prog_3_method_1_code
def yX1_init : MethodName := ⟨RX1, "<init>", "()V"⟩
abbrev cX1_stateAt : ByteArray := prog_3_method_2_code
def yX1_stateAt : MethodName := ⟨RX1, "stateAt", "(I)LSnakeTrades$Race;"⟩
abbrev cX1_remember : ByteArray := prog_3_method_3_code
def yX1_remember : MethodName := ⟨RX1, "remember", "(LSnakeTrades$Race;)V"⟩
abbrev cX1_bringBack : ByteArray := prog_3_method_4_code
def yX1_bringBack : MethodName := ⟨RX1, "bringBack", "(LSnakeTrades$Race;)I"⟩
abbrev cX1_dropOldest : ByteArray := prog_3_method_5_code
def yX1_dropOldest : MethodName := ⟨RX1, "dropOldest", "()V"⟩
def RX2 : String := "SnakeTrades$Piece"
def TX2 : u_T := fun k => match k with
  | 0 => ("SnakeTrades$Piece", "bites", "[LSnakeTrades$Bite;", true)
  | 1 => ("SnakeTrades$Piece", "held", "I", false)
  | 2 => ("SnakeTrades$Piece", "square", "I", false)
  | 3 => ("SnakeTrades$Piece", "coins", "I", false)
  | 4 => ("SnakeTrades$Piece", "place", "I", false)
  | 5 => ("SnakeTrades$Piece", "timesBitten", "I", false)
  | _ => ("SnakeTrades$Piece", "movedBack", "I", false)
def tyX2 : Nat → FieldType := fun k => match k with
  | 0 => .array (.object "SnakeTrades$Bite")
  | 1 => .int
  | 2 => .int
  | 3 => .int
  | 4 => .int
  | 5 => .int
  | _ => .int
theorem nmX2 : ∀ a, a < 7 → ∀ b, b < 7 → a ≠ b → (TX2 a).2.1 ≠ (TX2 b).2.1 := by decide +kernel
theorem tyX2_ok : ∀ k, k < 7 → parseFieldDescriptor (TX2 k).2.2.1 = some (tyX2 k) := by decide +kernel
abbrev cX2_init : ByteArray := prog_4_method_1_code
def yX2_init : MethodName := ⟨RX2, "<init>", "()V"⟩
abbrev cX2_isInRace : ByteArray := prog_4_method_2_code
def yX2_isInRace : MethodName := ⟨RX2, "isInRace", "()Z"⟩
abbrev cX2_biteAt : ByteArray := prog_4_method_3_code
def yX2_biteAt : MethodName := ⟨RX2, "biteAt", "(I)LSnakeTrades$Bite;"⟩
abbrev cX2_sizesTogether : ByteArray := prog_4_method_4_code
def yX2_sizesTogether : MethodName := ⟨RX2, "sizesTogether", "()I"⟩
abbrev cX2_nextBeginning : ByteArray := prog_4_method_5_code
def yX2_nextBeginning : MethodName := ⟨RX2, "nextBeginning", "()I"⟩
abbrev cX2_hurt : ByteArray := prog_4_method_6_code
def yX2_hurt : MethodName := ⟨RX2, "hurt", "()V"⟩
abbrev cX2_newLast : ByteArray := prog_4_method_7_code
def yX2_newLast : MethodName := ⟨RX2, "newLast", "()LSnakeTrades$Bite;"⟩
abbrev cX2_remove : ByteArray := prog_4_method_8_code
def yX2_remove : MethodName := ⟨RX2, "remove", "(I)V"⟩
abbrev cX2_copyFrom : ByteArray := prog_4_method_9_code
def yX2_copyFrom : MethodName := ⟨RX2, "copyFrom", "(LSnakeTrades$Piece;)V"⟩
def RX3 : String := "SnakeTrades$Race"
def TX3 : u_T := fun k => match k with
  | 0 => ("SnakeTrades$Race", "pieces", "[LSnakeTrades$Piece;", true)
  | 1 => ("SnakeTrades$Race", "snakes", "[LSnakeTrades$Snake;", true)
  | 2 => ("SnakeTrades$Race", "sleepSetting", "I", false)
  | 3 => ("SnakeTrades$Race", "limitSetting", "I", false)
  | 4 => ("SnakeTrades$Race", "tradesSetting", "I", false)
  | 5 => ("SnakeTrades$Race", "mover", "I", false)
  | 6 => ("SnakeTrades$Race", "turns", "I", false)
  | 7 => ("SnakeTrades$Race", "arrived", "I", false)
  | 8 => ("SnakeTrades$Race", "bitesSoFar", "I", false)
  | _ => ("SnakeTrades$Race", "salesSoFar", "I", false)
def tyX3 : Nat → FieldType := fun k => match k with
  | 0 => .array (.object "SnakeTrades$Piece")
  | 1 => .array (.object "SnakeTrades$Snake")
  | 2 => .int
  | 3 => .int
  | 4 => .int
  | 5 => .int
  | 6 => .int
  | 7 => .int
  | 8 => .int
  | _ => .int
theorem nmX3 : ∀ a, a < 10 → ∀ b, b < 10 → a ≠ b → (TX3 a).2.1 ≠ (TX3 b).2.1 := by decide +kernel
theorem tyX3_ok : ∀ k, k < 10 → parseFieldDescriptor (TX3 k).2.2.1 = some (tyX3 k) := by decide +kernel
abbrev cX3_init : ByteArray := prog_5_method_1_code
def yX3_init : MethodName := ⟨RX3, "<init>", "()V"⟩
abbrev cX3_copyFrom : ByteArray := prog_5_method_2_code
def yX3_copyFrom : MethodName := ⟨RX3, "copyFrom", "(LSnakeTrades$Race;)V"⟩
abbrev cX3_pieceOf : ByteArray := prog_5_method_3_code
def yX3_pieceOf : MethodName := ⟨RX3, "pieceOf", "(I)LSnakeTrades$Piece;"⟩
abbrev cX3_biteOf : ByteArray := prog_5_method_4_code
def yX3_biteOf : MethodName := ⟨RX3, "biteOf", "(II)LSnakeTrades$Bite;"⟩
abbrev cX3_placeOfSnake : ByteArray := prog_5_method_5_code
def yX3_placeOfSnake : MethodName := ⟨RX3, "placeOfSnake", "(I)LSnakeTrades$Snake;"⟩
abbrev cX3_snakeNumbered : ByteArray := prog_5_method_6_code
def yX3_snakeNumbered : MethodName := ⟨RX3, "snakeNumbered", "(I)LSnakeTrades$Snake;"⟩
abbrev cX3_freeNumber : ByteArray := prog_5_method_7_code
def yX3_freeNumber : MethodName := ⟨RX3, "freeNumber", "()I"⟩
abbrev cX3_numberOfHeadOn : ByteArray := prog_5_method_8_code
def yX3_numberOfHeadOn : MethodName := ⟨RX3, "numberOfHeadOn", "(I)I"⟩
abbrev cX3_tailsOn : ByteArray := prog_5_method_9_code
def yX3_tailsOn : MethodName := ⟨RX3, "tailsOn", "(I)I"⟩
abbrev cX3_snakesThere : ByteArray := prog_5_method_10_code
def yX3_snakesThere : MethodName := ⟨RX3, "snakesThere", "()I"⟩
abbrev cX3_piecesOn : ByteArray := prog_5_method_11_code
def yX3_piecesOn : MethodName := ⟨RX3, "piecesOn", "(I)I"⟩
abbrev cX3_isInRace : ByteArray := prog_5_method_12_code
def yX3_isInRace : MethodName := ⟨RX3, "isInRace", "(I)Z"⟩
abbrev cX3_playersInRace : ByteArray := prog_5_method_13_code
def yX3_playersInRace : MethodName := ⟨RX3, "playersInRace", "()I"⟩
abbrev cX3_bitesHeld : ByteArray := prog_5_method_14_code
def yX3_bitesHeld : MethodName := ⟨RX3, "bitesHeld", "()I"⟩
abbrev cX3_coinsOfAll : ByteArray := prog_5_method_15_code
def yX3_coinsOfAll : MethodName := ⟨RX3, "coinsOfAll", "()I"⟩
abbrev cX3_settingOf : ByteArray := prog_5_method_16_code
def yX3_settingOf : MethodName := ⟨RX3, "settingOf", "(I)I"⟩
abbrev cX3_changeSetting : ByteArray := prog_5_method_17_code
def yX3_changeSetting : MethodName := ⟨RX3, "changeSetting", "(II)V"⟩
abbrev cX3_isOver : ByteArray := prog_5_method_18_code
def yX3_isOver : MethodName := ⟨RX3, "isOver", "()Z"⟩
abbrev cX3_makeTurn : ByteArray := prog_5_method_19_code
def yX3_makeTurn : MethodName := ⟨RX3, "makeTurn", "(I)I"⟩
abbrev cX3_biterOf : ByteArray := prog_5_method_20_code
def yX3_biterOf : MethodName := ⟨RX3, "biterOf", "(II)LSnakeTrades$Snake;"⟩
abbrev cX3_biteWith : ByteArray := prog_5_method_21_code
def yX3_biteWith : MethodName := ⟨RX3, "biteWith", "(LSnakeTrades$Snake;LSnakeTrades$Piece;I)V"⟩
abbrev cX3_shortenSleeps : ByteArray := prog_5_method_22_code
def yX3_shortenSleeps : MethodName := ⟨RX3, "shortenSleeps", "()V"⟩
abbrev cX3_moverAfter : ByteArray := prog_5_method_23_code
def yX3_moverAfter : MethodName := ⟨RX3, "moverAfter", "(I)I"⟩
abbrev cX3_beginningAfter : ByteArray := prog_5_method_24_code
def yX3_beginningAfter : MethodName := ⟨RX3, "beginningAfter", "(I)I"⟩
abbrev cX3_askedBy : ByteArray := prog_5_method_25_code
def yX3_askedBy : MethodName := ⟨RX3, "askedBy", "(ILSnakeTrades$Bite;)I"⟩
abbrev cX3_obstacle : ByteArray := prog_5_method_26_code
def yX3_obstacle : MethodName := ⟨RX3, "obstacle", "(IIII)I"⟩
abbrev cX3_trade : ByteArray := prog_5_method_27_code
def yX3_trade : MethodName := ⟨RX3, "trade", "(IIII)I"⟩
def RX4 : String := "SnakeTrades$Script"
def TX4 : u_T := fun k => match k with
  | 0 => ("SnakeTrades$Script", "signs", "[I", true)
  | _ => ("SnakeTrades$Script", "length", "I", false)
def tyX4 : Nat → FieldType := fun k => match k with
  | 0 => .array .int
  | _ => .int
theorem nmX4 : ∀ a, a < 2 → ∀ b, b < 2 → a ≠ b → (TX4 a).2.1 ≠ (TX4 b).2.1 := by decide +kernel
theorem tyX4_ok : ∀ k, k < 2 → parseFieldDescriptor (TX4 k).2.2.1 = some (tyX4 k) := by decide +kernel
abbrev cX4_init : ByteArray := prog_6_method_1_code
def yX4_init : MethodName := ⟨RX4, "<init>", "()V"⟩
def RX5 : String := "SnakeTrades$Search"
def TX5 : u_T := fun k => match k with
  | 0 => ("SnakeTrades$Search", "throwsTo", "[I", true)
  | 1 => ("SnakeTrades$Search", "queue", "[I", true)
  | _ => ("SnakeTrades$Search", "queued", "I", false)
def tyX5 : Nat → FieldType := fun k => match k with
  | 0 => .array .int
  | 1 => .array .int
  | _ => .int
theorem nmX5 : ∀ a, a < 3 → ∀ b, b < 3 → a ≠ b → (TX5 a).2.1 ≠ (TX5 b).2.1 := by decide +kernel
theorem tyX5_ok : ∀ k, k < 3 → parseFieldDescriptor (TX5 k).2.2.1 = some (tyX5 k) := by decide +kernel
abbrev cX5_init : ByteArray := prog_7_method_1_code
def yX5_init : MethodName := ⟨RX5, "<init>", "()V"⟩
abbrev cX5_onFrom : ByteArray := prog_7_method_2_code
def yX5_onFrom : MethodName := ⟨RX5, "onFrom", "(LSnakeTrades$Race;I)I"⟩
abbrev cX5_backTo : ByteArray := prog_7_method_3_code
def yX5_backTo : MethodName := ⟨RX5, "backTo", "(LSnakeTrades$Race;I)I"⟩
abbrev cX5_seeLandingsThatLeadTo : ByteArray := prog_7_method_4_code
def yX5_seeLandingsThatLeadTo : MethodName := ⟨RX5, "seeLandingsThatLeadTo", "(ILSnakeTrades$Race;)V"⟩
abbrev cX5_seeSquaresBefore : ByteArray := prog_7_method_5_code
def yX5_seeSquaresBefore : MethodName := ⟨RX5, "seeSquaresBefore", "(II)V"⟩
abbrev cX5_start : ByteArray := prog_7_method_6_code
def yX5_start : MethodName := ⟨RX5, "start", "(I)V"⟩
abbrev cX5_see : ByteArray := prog_7_method_7_code
def yX5_see : MethodName := ⟨RX5, "see", "(II)V"⟩
abbrev cX5_throwsAt : ByteArray := prog_7_method_8_code
def yX5_throwsAt : MethodName := ⟨RX5, "throwsAt", "(I)I"⟩
def RX6 : String := "SnakeTrades$Snake"
def TX6 : u_T := fun k => match k with
  | 0 => ("SnakeTrades$Snake", "head", "I", false)
  | 1 => ("SnakeTrades$Snake", "tail", "I", false)
  | 2 => ("SnakeTrades$Snake", "sleep", "I", false)
  | _ => ("SnakeTrades$Snake", "timesBiting", "I", false)
def tyX6 : Nat → FieldType := fun k => match k with
  | 0 => .int
  | 1 => .int
  | 2 => .int
  | _ => .int
theorem nmX6 : ∀ a, a < 4 → ∀ b, b < 4 → a ≠ b → (TX6 a).2.1 ≠ (TX6 b).2.1 := by decide +kernel
theorem tyX6_ok : ∀ k, k < 4 → parseFieldDescriptor (TX6 k).2.2.1 = some (tyX6 k) := by decide +kernel
abbrev cX6_init : ByteArray := prog_8_method_1_code
def yX6_init : MethodName := ⟨RX6, "<init>", "()V"⟩
abbrev cX6_isThere : ByteArray := prog_8_method_2_code
def yX6_isThere : MethodName := ⟨RX6, "isThere", "()Z"⟩
abbrev cX6_appear : ByteArray := prog_8_method_3_code
def yX6_appear : MethodName := ⟨RX6, "appear", "(II)V"⟩
abbrev cX6_vanish : ByteArray := prog_8_method_4_code
def yX6_vanish : MethodName := ⟨RX6, "vanish", "()V"⟩
abbrev cX6_copyFrom : ByteArray := prog_8_method_5_code
def yX6_copyFrom : MethodName := ⟨RX6, "copyFrom", "(LSnakeTrades$Snake;)V"⟩
def RX7 : String := "SnakeTrades"
def TX7 : u_T := fun k => match k with
  | 0 => ("SnakeTrades", "race", "LSnakeTrades$Race;", true)
  | 1 => ("SnakeTrades", "trial", "LSnakeTrades$Race;", true)
  | 2 => ("SnakeTrades", "snapshot", "LSnakeTrades$Race;", true)
  | 3 => ("SnakeTrades", "past", "LSnakeTrades$Past;", true)
  | 4 => ("SnakeTrades", "script", "LSnakeTrades$Script;", true)
  | 5 => ("SnakeTrades", "search", "LSnakeTrades$Search;", true)
  | _ => ("SnakeTrades", "hasSnapshot", "Z", false)
def tyX7 : Nat → FieldType := fun k => match k with
  | 0 => .object "SnakeTrades$Race"
  | 1 => .object "SnakeTrades$Race"
  | 2 => .object "SnakeTrades$Race"
  | 3 => .object "SnakeTrades$Past"
  | 4 => .object "SnakeTrades$Script"
  | 5 => .object "SnakeTrades$Search"
  | _ => .boolean
theorem nmX7 : ∀ a, a < 7 → ∀ b, b < 7 → a ≠ b → (TX7 a).2.1 ≠ (TX7 b).2.1 := by decide +kernel
theorem tyX7_ok : ∀ k, k < 7 → parseFieldDescriptor (TX7 k).2.2.1 = some (tyX7 k) := by decide +kernel
abbrev cX7_init : ByteArray := prog_1_method_1_code
def yX7_init : MethodName := ⟨RX7, "<init>", "()V"⟩
abbrev cX7_snake : ByteArray := prog_1_method_2_code
def yX7_snake : MethodName := ⟨RX7, "snake", "(II)I"⟩
abbrev cX7_charm : ByteArray := prog_1_method_3_code
def yX7_charm : MethodName := ⟨RX7, "charm", "(II)I"⟩
abbrev cX7_turn : ByteArray := prog_1_method_4_code
def yX7_turn : MethodName := ⟨RX7, "turn", "(I)I"⟩
abbrev cX7_play : ByteArray := prog_1_method_5_code
def yX7_play : MethodName := ⟨RX7, "play", "(II)I"⟩
abbrev cX7_sell : ByteArray := prog_1_method_6_code
def yX7_sell : MethodName := ⟨RX7, "sell", "(IIII)I"⟩
abbrev cX7_set : ByteArray := prog_1_method_7_code
def yX7_set : MethodName := ⟨RX7, "set", "(II)I"⟩
abbrev cX7_undo : ByteArray := prog_1_method_12_code
def yX7_undo : MethodName := ⟨RX7, "undo", "()I"⟩
abbrev cX7_player : ByteArray := prog_1_method_15_code
def yX7_player : MethodName := ⟨RX7, "player", "(II)I"⟩
abbrev cX7_bite : ByteArray := prog_1_method_16_code
def yX7_bite : MethodName := ⟨RX7, "bite", "(III)I"⟩
abbrev cX7_snakeOf : ByteArray := prog_1_method_17_code
def yX7_snakeOf : MethodName := ⟨RX7, "snakeOf", "(II)I"⟩
abbrev cX7_square : ByteArray := prog_1_method_18_code
def yX7_square : MethodName := ⟨RX7, "square", "(II)I"⟩
abbrev cX7_count : ByteArray := prog_1_method_19_code
def yX7_count : MethodName := ⟨RX7, "count", "(I)I"⟩
abbrev cX7_why : ByteArray := prog_1_method_20_code
def yX7_why : MethodName := ⟨RX7, "why", "(IIII)I"⟩
abbrev cX7_cheapest : ByteArray := prog_1_method_21_code
def yX7_cheapest : MethodName := ⟨RX7, "cheapest", "(II)I"⟩
abbrev cX7_dangers : ByteArray := prog_1_method_22_code
def yX7_dangers : MethodName := ⟨RX7, "dangers", "(I)I"⟩
abbrev cX7_fewest : ByteArray := prog_1_method_23_code
def yX7_fewest : MethodName := ⟨RX7, "fewest", "(II)I"⟩
abbrev cX7_nextHome : ByteArray := prog_1_method_24_code
def yX7_nextHome : MethodName := ⟨RX7, "nextHome", "(I)I"⟩
abbrev cX7_progress : ByteArray := prog_1_method_25_code
def yX7_progress : MethodName := ⟨RX7, "progress", "(I)D"⟩
abbrev cX7_isSnakeForm : ByteArray := prog_1_method_26_code
def yX7_isSnakeForm : MethodName := ⟨RX7, "isSnakeForm", "(II)Z"⟩
abbrev cX7_leastValue : ByteArray := prog_1_method_27_code
def yX7_leastValue : MethodName := ⟨RX7, "leastValue", "(I)I"⟩
abbrev cX7_highestValue : ByteArray := prog_1_method_28_code
def yX7_highestValue : MethodName := ⟨RX7, "highestValue", "(I)I"⟩
abbrev cX7_isDraw : ByteArray := prog_1_method_29_code
def yX7_isDraw : MethodName := ⟨RX7, "isDraw", "(I)Z"⟩
abbrev cX7_drawAfter : ByteArray := prog_1_method_30_code
def yX7_drawAfter : MethodName := ⟨RX7, "drawAfter", "(I)I"⟩
abbrev cX7_throwOf : ByteArray := prog_1_method_31_code
def yX7_throwOf : MethodName := ⟨RX7, "throwOf", "(I)I"⟩
abbrev cX7_landing : ByteArray := prog_1_method_32_code
def yX7_landing : MethodName := ⟨RX7, "landing", "(II)I"⟩
def RX8 : String := "SnakeTradesModel"
def TX8 : u_T := fun k => match k with
  | _ => ("", "", "", false)
def tyX8 : Nat → FieldType := fun k => match k with
  | _ => .int
theorem nmX8 : ∀ a, a < 0 → ∀ b, b < 0 → a ≠ b → (TX8 a).2.1 ≠ (TX8 b).2.1 := by decide +kernel
theorem tyX8_ok : ∀ k, k < 0 → parseFieldDescriptor (TX8 k).2.2.1 = some (tyX8 k) := by decide +kernel
def RL : String := "SnakeTradesLaw"
abbrev cL_cell : ByteArray := method_2_code
def yL_cell : MethodName := ⟨RL, "cell", "([II)I"⟩
abbrev cL_low : ByteArray := method_3_code
def yL_low : MethodName := ⟨RL, "low", "(II)I"⟩
abbrev cL_ones : ByteArray := method_4_code
def yL_ones : MethodName := ⟨RL, "ones", "(I)I"⟩
abbrev cL_isPlayer : ByteArray := method_5_code
def yL_isPlayer : MethodName := ⟨RL, "isPlayer", "(LSnakeTrades;I)Z"⟩
abbrev cL_holds : ByteArray := method_6_code
def yL_holds : MethodName := ⟨RL, "holds", "(LSnakeTrades;)Z"⟩
abbrev cL_turns : ByteArray := method_7_code
def yL_turns : MethodName := ⟨RL, "turns", "(LSnakeTrades;I)Z"⟩
abbrev cL_plays : ByteArray := method_8_code
def yL_plays : MethodName := ⟨RL, "plays", "(LSnakeTrades;II)Z"⟩
abbrev cL_sells : ByteArray := method_9_code
def yL_sells : MethodName := ⟨RL, "sells", "(LSnakeTrades;I)Z"⟩
abbrev cL_act : ByteArray := method_10_code
def yL_act : MethodName := ⟨RL, "act", "(LSnakeTrades;II)Z"⟩
abbrev cL_law : ByteArray := code
def yL_law : MethodName := ⟨RL, "law", "([I)Z"⟩
abbrev vwCl : List vw_C := [(RX0, TX0, 4), (RX1, TX1, 2), (RX2, TX2, 7), (RX3, TX3, 10), (RX4, TX4, 2), (RX5, TX5, 3), (RX6, TX6, 4), (RX7, TX7, 7)]
