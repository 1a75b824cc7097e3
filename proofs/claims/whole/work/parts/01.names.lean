-- ===== PART A: goes FIRST, ahead of the names: the tables' words, and 'selects' of the private methods out of them =====
/-- a private method of a class that the tables say can be made, by its rows of tables_1 -/
def lw_okq (q : MethodName × Nat) : Prop := (q.1.cls ≠ "java/lang/invoke/MethodHandle" ∧ q.1.cls ≠ "java/lang/invoke/VarHandle") ∧ Cond.instantiable q.1.cls q.2 ∈ tables_1 ∧ Cond.privateMethod q.1 ∈ tables_1 ∧ Cond.instanceMethod q.1 ∈ tables_1
theorem lw_p0 : lw_okq (⟨"SnakeTrades$Past", "dropOldest", "()V"⟩, 2) := ⟨⟨by decide +kernel, by decide +kernel⟩, List.mem_of_getElem? (i := 157) (by decide +kernel), List.mem_of_getElem? (i := 259) (by decide +kernel), List.mem_of_getElem? (i := 260) (by decide +kernel)⟩
theorem lw_p1 : lw_okq (⟨"SnakeTrades$Past", "stateAt", "(I)LSnakeTrades$Race;"⟩, 2) := ⟨⟨by decide +kernel, by decide +kernel⟩, List.mem_of_getElem? (i := 157) (by decide +kernel), List.mem_of_getElem? (i := 263) (by decide +kernel), List.mem_of_getElem? (i := 264) (by decide +kernel)⟩
theorem lw_p2 : lw_okq (⟨"SnakeTrades$Race", "biteWith", "(LSnakeTrades$Snake;LSnakeTrades$Piece;I)V"⟩, 10) := ⟨⟨by decide +kernel, by decide +kernel⟩, List.mem_of_getElem? (i := 19) (by decide +kernel), List.mem_of_getElem? (i := 341) (by decide +kernel), List.mem_of_getElem? (i := 342) (by decide +kernel)⟩
theorem lw_p3 : lw_okq (⟨"SnakeTrades$Race", "shortenSleeps", "()V"⟩, 10) := ⟨⟨by decide +kernel, by decide +kernel⟩, List.mem_of_getElem? (i := 19) (by decide +kernel), List.mem_of_getElem? (i := 357) (by decide +kernel), List.mem_of_getElem? (i := 358) (by decide +kernel)⟩
theorem lw_p4 : lw_okq (⟨"SnakeTrades$Race", "moverAfter", "(I)I"⟩, 10) := ⟨⟨by decide +kernel, by decide +kernel⟩, List.mem_of_getElem? (i := 19) (by decide +kernel), List.mem_of_getElem? (i := 361) (by decide +kernel), List.mem_of_getElem? (i := 362) (by decide +kernel)⟩
theorem lw_p5 : lw_okq (⟨"SnakeTrades$Script", "signAt", "(I)I"⟩, 2) := ⟨⟨by decide +kernel, by decide +kernel⟩, List.mem_of_getElem? (i := 174) (by decide +kernel), List.mem_of_getElem? (i := 457) (by decide +kernel), List.mem_of_getElem? (i := 458) (by decide +kernel)⟩
theorem lw_p6 : lw_okq (⟨"SnakeTrades$Script", "tradeFrom", "(LSnakeTrades$Race;II)I"⟩, 2) := ⟨⟨by decide +kernel, by decide +kernel⟩, List.mem_of_getElem? (i := 174) (by decide +kernel), List.mem_of_getElem? (i := 476) (by decide +kernel), List.mem_of_getElem? (i := 477) (by decide +kernel)⟩
theorem lw_p7 : lw_okq (⟨"SnakeTrades$Search", "start", "(I)V"⟩, 3) := ⟨⟨by decide +kernel, by decide +kernel⟩, List.mem_of_getElem? (i := 189) (by decide +kernel), List.mem_of_getElem? (i := 567) (by decide +kernel), List.mem_of_getElem? (i := 568) (by decide +kernel)⟩
theorem lw_p8 : lw_okq (⟨"SnakeTrades$Search", "see", "(II)V"⟩, 3) := ⟨⟨by decide +kernel, by decide +kernel⟩, List.mem_of_getElem? (i := 189) (by decide +kernel), List.mem_of_getElem? (i := 571) (by decide +kernel), List.mem_of_getElem? (i := 572) (by decide +kernel)⟩
theorem lw_p9 : lw_okq (⟨"SnakeTrades$Search", "throwsAt", "(I)I"⟩, 3) := ⟨⟨by decide +kernel, by decide +kernel⟩, List.mem_of_getElem? (i := 189) (by decide +kernel), List.mem_of_getElem? (i := 575) (by decide +kernel), List.mem_of_getElem? (i := 576) (by decide +kernel)⟩
theorem lw_p10 : lw_okq (⟨"SnakeTrades$Search", "seeLandingsThatLeadTo", "(ILSnakeTrades$Race;)V"⟩, 3) := ⟨⟨by decide +kernel, by decide +kernel⟩, List.mem_of_getElem? (i := 189) (by decide +kernel), List.mem_of_getElem? (i := 588) (by decide +kernel), List.mem_of_getElem? (i := 589) (by decide +kernel)⟩
theorem lw_p11 : lw_okq (⟨"SnakeTrades$Search", "seeSquaresBefore", "(II)V"⟩, 3) := ⟨⟨by decide +kernel, by decide +kernel⟩, List.mem_of_getElem? (i := 189) (by decide +kernel), List.mem_of_getElem? (i := 593) (by decide +kernel), List.mem_of_getElem? (i := 594) (by decide +kernel)⟩
theorem lw_p12 : lw_okq (⟨"SnakeTradesModel", "snakeAt", "(I)I"⟩, 14) := ⟨⟨by decide +kernel, by decide +kernel⟩, List.mem_of_getElem? (i := 607) (by decide +kernel), List.mem_of_getElem? (i := 664) (by decide +kernel), List.mem_of_getElem? (i := 665) (by decide +kernel)⟩
theorem lw_p13 : lw_okq (⟨"SnakeTradesModel", "ofSnake", "(II)I"⟩, 14) := ⟨⟨by decide +kernel, by decide +kernel⟩, List.mem_of_getElem? (i := 607) (by decide +kernel), List.mem_of_getElem? (i := 668) (by decide +kernel), List.mem_of_getElem? (i := 669) (by decide +kernel)⟩
theorem lw_p14 : lw_okq (⟨"SnakeTradesModel", "snakes", "()I"⟩, 14) := ⟨⟨by decide +kernel, by decide +kernel⟩, List.mem_of_getElem? (i := 607) (by decide +kernel), List.mem_of_getElem? (i := 672) (by decide +kernel), List.mem_of_getElem? (i := 673) (by decide +kernel)⟩
theorem lw_p15 : lw_okq (⟨"SnakeTradesModel", "record", "()V"⟩, 14) := ⟨⟨by decide +kernel, by decide +kernel⟩, List.mem_of_getElem? (i := 607) (by decide +kernel), List.mem_of_getElem? (i := 676) (by decide +kernel), List.mem_of_getElem? (i := 677) (by decide +kernel)⟩
def lw_privs_1 : List (MethodName × Nat) := [(⟨"SnakeTrades$Past", "dropOldest", "()V"⟩, 2), (⟨"SnakeTrades$Past", "stateAt", "(I)LSnakeTrades$Race;"⟩, 2), (⟨"SnakeTrades$Race", "biteWith", "(LSnakeTrades$Snake;LSnakeTrades$Piece;I)V"⟩, 10), (⟨"SnakeTrades$Race", "shortenSleeps", "()V"⟩, 10), (⟨"SnakeTrades$Race", "moverAfter", "(I)I"⟩, 10), (⟨"SnakeTrades$Script", "signAt", "(I)I"⟩, 2), (⟨"SnakeTrades$Script", "tradeFrom", "(LSnakeTrades$Race;II)I"⟩, 2), (⟨"SnakeTrades$Search", "start", "(I)V"⟩, 3), (⟨"SnakeTrades$Search", "see", "(II)V"⟩, 3), (⟨"SnakeTrades$Search", "throwsAt", "(I)I"⟩, 3), (⟨"SnakeTrades$Search", "seeLandingsThatLeadTo", "(ILSnakeTrades$Race;)V"⟩, 3), (⟨"SnakeTrades$Search", "seeSquaresBefore", "(II)V"⟩, 3), (⟨"SnakeTradesModel", "snakeAt", "(I)I"⟩, 14), (⟨"SnakeTradesModel", "ofSnake", "(II)I"⟩, 14), (⟨"SnakeTradesModel", "snakes", "()I"⟩, 14), (⟨"SnakeTradesModel", "record", "()V"⟩, 14)]
theorem lw_r1 : ∀ q ∈ lw_privs_1, lw_okq q := List.forall_mem_cons.mpr ⟨lw_p0, List.forall_mem_cons.mpr ⟨lw_p1, List.forall_mem_cons.mpr ⟨lw_p2, List.forall_mem_cons.mpr ⟨lw_p3, List.forall_mem_cons.mpr ⟨lw_p4, List.forall_mem_cons.mpr ⟨lw_p5, List.forall_mem_cons.mpr ⟨lw_p6, List.forall_mem_cons.mpr ⟨lw_p7, List.forall_mem_cons.mpr ⟨lw_p8, List.forall_mem_cons.mpr ⟨lw_p9, List.forall_mem_cons.mpr ⟨lw_p10, List.forall_mem_cons.mpr ⟨lw_p11, List.forall_mem_cons.mpr ⟨lw_p12, List.forall_mem_cons.mpr ⟨lw_p13, List.forall_mem_cons.mpr ⟨lw_p14, List.forall_mem_cons.mpr ⟨lw_p15, fun _ h => absurd h List.not_mem_nil⟩⟩⟩⟩⟩⟩⟩⟩⟩⟩⟩⟩⟩⟩⟩⟩
theorem lw_p16 : lw_okq (⟨"SnakeTradesModel", "isSnake", "(I)Z"⟩, 14) := ⟨⟨by decide +kernel, by decide +kernel⟩, List.mem_of_getElem? (i := 607) (by decide +kernel), List.mem_of_getElem? (i := 683) (by decide +kernel), List.mem_of_getElem? (i := 684) (by decide +kernel)⟩
theorem lw_p17 : lw_okq (⟨"SnakeTradesModel", "turnError", "(I)I"⟩, 14) := ⟨⟨by decide +kernel, by decide +kernel⟩, List.mem_of_getElem? (i := 607) (by decide +kernel), List.mem_of_getElem? (i := 695) (by decide +kernel), List.mem_of_getElem? (i := 696) (by decide +kernel)⟩
theorem lw_p18 : lw_okq (⟨"SnakeTradesModel", "isOver", "()Z"⟩, 14) := ⟨⟨by decide +kernel, by decide +kernel⟩, List.mem_of_getElem? (i := 607) (by decide +kernel), List.mem_of_getElem? (i := 699) (by decide +kernel), List.mem_of_getElem? (i := 700) (by decide +kernel)⟩
theorem lw_p19 : lw_okq (⟨"SnakeTradesModel", "doTurn", "(I)I"⟩, 14) := ⟨⟨by decide +kernel, by decide +kernel⟩, List.mem_of_getElem? (i := 607) (by decide +kernel), List.mem_of_getElem? (i := 703) (by decide +kernel), List.mem_of_getElem? (i := 704) (by decide +kernel)⟩
theorem lw_p20 : lw_okq (⟨"SnakeTradesModel", "beginsAt", "(I)I"⟩, 14) := ⟨⟨by decide +kernel, by decide +kernel⟩, List.mem_of_getElem? (i := 607) (by decide +kernel), List.mem_of_getElem? (i := 707) (by decide +kernel), List.mem_of_getElem? (i := 708) (by decide +kernel)⟩
theorem lw_p21 : lw_okq (⟨"SnakeTradesModel", "of", "(II)I"⟩, 14) := ⟨⟨by decide +kernel, by decide +kernel⟩, List.mem_of_getElem? (i := 607) (by decide +kernel), List.mem_of_getElem? (i := 711) (by decide +kernel), List.mem_of_getElem? (i := 712) (by decide +kernel)⟩
theorem lw_p22 : lw_okq (⟨"SnakeTradesModel", "hurts", "(I)I"⟩, 14) := ⟨⟨by decide +kernel, by decide +kernel⟩, List.mem_of_getElem? (i := 607) (by decide +kernel), List.mem_of_getElem? (i := 715) (by decide +kernel), List.mem_of_getElem? (i := 716) (by decide +kernel)⟩
theorem lw_p23 : lw_okq (⟨"SnakeTradesModel", "add", "(III)V"⟩, 14) := ⟨⟨by decide +kernel, by decide +kernel⟩, List.mem_of_getElem? (i := 607) (by decide +kernel), List.mem_of_getElem? (i := 722) (by decide +kernel), List.mem_of_getElem? (i := 723) (by decide +kernel)⟩
theorem lw_p24 : lw_okq (⟨"SnakeTradesModel", "bites", "(II)Z"⟩, 14) := ⟨⟨by decide +kernel, by decide +kernel⟩, List.mem_of_getElem? (i := 607) (by decide +kernel), List.mem_of_getElem? (i := 729) (by decide +kernel), List.mem_of_getElem? (i := 730) (by decide +kernel)⟩
theorem lw_p25 : lw_okq (⟨"SnakeTradesModel", "piecesAt", "(I)I"⟩, 14) := ⟨⟨by decide +kernel, by decide +kernel⟩, List.mem_of_getElem? (i := 607) (by decide +kernel), List.mem_of_getElem? (i := 733) (by decide +kernel), List.mem_of_getElem? (i := 734) (by decide +kernel)⟩
theorem lw_p26 : lw_okq (⟨"SnakeTradesModel", "beBitten", "(II)V"⟩, 14) := ⟨⟨by decide +kernel, by decide +kernel⟩, List.mem_of_getElem? (i := 607) (by decide +kernel), List.mem_of_getElem? (i := 737) (by decide +kernel), List.mem_of_getElem? (i := 738) (by decide +kernel)⟩
theorem lw_p27 : lw_okq (⟨"SnakeTradesModel", "getBite", "(II)V"⟩, 14) := ⟨⟨by decide +kernel, by decide +kernel⟩, List.mem_of_getElem? (i := 607) (by decide +kernel), List.mem_of_getElem? (i := 741) (by decide +kernel), List.mem_of_getElem? (i := 742) (by decide +kernel)⟩
theorem lw_p28 : lw_okq (⟨"SnakeTradesModel", "isIn", "(I)Z"⟩, 14) := ⟨⟨by decide +kernel, by decide +kernel⟩, List.mem_of_getElem? (i := 607) (by decide +kernel), List.mem_of_getElem? (i := 745) (by decide +kernel), List.mem_of_getElem? (i := 746) (by decide +kernel)⟩
theorem lw_p29 : lw_okq (⟨"SnakeTradesModel", "sellError", "(IIII)I"⟩, 14) := ⟨⟨by decide +kernel, by decide +kernel⟩, List.mem_of_getElem? (i := 607) (by decide +kernel), List.mem_of_getElem? (i := 765) (by decide +kernel), List.mem_of_getElem? (i := 766) (by decide +kernel)⟩
theorem lw_p30 : lw_okq (⟨"SnakeTradesModel", "isBite", "(II)Z"⟩, 14) := ⟨⟨by decide +kernel, by decide +kernel⟩, List.mem_of_getElem? (i := 607) (by decide +kernel), List.mem_of_getElem? (i := 769) (by decide +kernel), List.mem_of_getElem? (i := 770) (by decide +kernel)⟩
theorem lw_p31 : lw_okq (⟨"SnakeTradesModel", "reason", "(IIII)I"⟩, 14) := ⟨⟨by decide +kernel, by decide +kernel⟩, List.mem_of_getElem? (i := 607) (by decide +kernel), List.mem_of_getElem? (i := 776) (by decide +kernel), List.mem_of_getElem? (i := 777) (by decide +kernel)⟩
def lw_privs_2 : List (MethodName × Nat) := [(⟨"SnakeTradesModel", "isSnake", "(I)Z"⟩, 14), (⟨"SnakeTradesModel", "turnError", "(I)I"⟩, 14), (⟨"SnakeTradesModel", "isOver", "()Z"⟩, 14), (⟨"SnakeTradesModel", "doTurn", "(I)I"⟩, 14), (⟨"SnakeTradesModel", "beginsAt", "(I)I"⟩, 14), (⟨"SnakeTradesModel", "of", "(II)I"⟩, 14), (⟨"SnakeTradesModel", "hurts", "(I)I"⟩, 14), (⟨"SnakeTradesModel", "add", "(III)V"⟩, 14), (⟨"SnakeTradesModel", "bites", "(II)Z"⟩, 14), (⟨"SnakeTradesModel", "piecesAt", "(I)I"⟩, 14), (⟨"SnakeTradesModel", "beBitten", "(II)V"⟩, 14), (⟨"SnakeTradesModel", "getBite", "(II)V"⟩, 14), (⟨"SnakeTradesModel", "isIn", "(I)Z"⟩, 14), (⟨"SnakeTradesModel", "sellError", "(IIII)I"⟩, 14), (⟨"SnakeTradesModel", "isBite", "(II)Z"⟩, 14), (⟨"SnakeTradesModel", "reason", "(IIII)I"⟩, 14)]
theorem lw_r2 : ∀ q ∈ lw_privs_2, lw_okq q := List.forall_mem_cons.mpr ⟨lw_p16, List.forall_mem_cons.mpr ⟨lw_p17, List.forall_mem_cons.mpr ⟨lw_p18, List.forall_mem_cons.mpr ⟨lw_p19, List.forall_mem_cons.mpr ⟨lw_p20, List.forall_mem_cons.mpr ⟨lw_p21, List.forall_mem_cons.mpr ⟨lw_p22, List.forall_mem_cons.mpr ⟨lw_p23, List.forall_mem_cons.mpr ⟨lw_p24, List.forall_mem_cons.mpr ⟨lw_p25, List.forall_mem_cons.mpr ⟨lw_p26, List.forall_mem_cons.mpr ⟨lw_p27, List.forall_mem_cons.mpr ⟨lw_p28, List.forall_mem_cons.mpr ⟨lw_p29, List.forall_mem_cons.mpr ⟨lw_p30, List.forall_mem_cons.mpr ⟨lw_p31, fun _ h => absurd h List.not_mem_nil⟩⟩⟩⟩⟩⟩⟩⟩⟩⟩⟩⟩⟩⟩⟩⟩
theorem lw_p32 : lw_okq (⟨"SnakeTradesModel", "asks", "(II)I"⟩, 14) := ⟨⟨by decide +kernel, by decide +kernel⟩, List.mem_of_getElem? (i := 607) (by decide +kernel), List.mem_of_getElem? (i := 780) (by decide +kernel), List.mem_of_getElem? (i := 781) (by decide +kernel)⟩
theorem lw_p33 : lw_okq (⟨"SnakeTradesModel", "doSell", "(IIII)I"⟩, 14) := ⟨⟨by decide +kernel, by decide +kernel⟩, List.mem_of_getElem? (i := 607) (by decide +kernel), List.mem_of_getElem? (i := 784) (by decide +kernel), List.mem_of_getElem? (i := 785) (by decide +kernel)⟩
theorem lw_p34 : lw_okq (⟨"SnakeTradesModel", "readText", "(Z)Z"⟩, 14) := ⟨⟨by decide +kernel, by decide +kernel⟩, List.mem_of_getElem? (i := 607) (by decide +kernel), List.mem_of_getElem? (i := 804) (by decide +kernel), List.mem_of_getElem? (i := 805) (by decide +kernel)⟩
theorem lw_p35 : lw_okq (⟨"SnakeTradesModel", "readOrder", "()Z"⟩, 14) := ⟨⟨by decide +kernel, by decide +kernel⟩, List.mem_of_getElem? (i := 607) (by decide +kernel), List.mem_of_getElem? (i := 808) (by decide +kernel), List.mem_of_getElem? (i := 809) (by decide +kernel)⟩
theorem lw_p36 : lw_okq (⟨"SnakeTradesModel", "isNext", "(II)Z"⟩, 14) := ⟨⟨by decide +kernel, by decide +kernel⟩, List.mem_of_getElem? (i := 607) (by decide +kernel), List.mem_of_getElem? (i := 812) (by decide +kernel), List.mem_of_getElem? (i := 813) (by decide +kernel)⟩
theorem lw_p37 : lw_okq (⟨"SnakeTradesModel", "takes", "(I)Z"⟩, 14) := ⟨⟨by decide +kernel, by decide +kernel⟩, List.mem_of_getElem? (i := 607) (by decide +kernel), List.mem_of_getElem? (i := 816) (by decide +kernel), List.mem_of_getElem? (i := 817) (by decide +kernel)⟩
theorem lw_p38 : lw_okq (⟨"SnakeTradesModel", "take", "(III)Z"⟩, 14) := ⟨⟨by decide +kernel, by decide +kernel⟩, List.mem_of_getElem? (i := 607) (by decide +kernel), List.mem_of_getElem? (i := 820) (by decide +kernel), List.mem_of_getElem? (i := 821) (by decide +kernel)⟩
theorem lw_p39 : lw_okq (⟨"SnakeTradesModel", "readCoins", "()Z"⟩, 14) := ⟨⟨by decide +kernel, by decide +kernel⟩, List.mem_of_getElem? (i := 607) (by decide +kernel), List.mem_of_getElem? (i := 824) (by decide +kernel), List.mem_of_getElem? (i := 825) (by decide +kernel)⟩
theorem lw_p40 : lw_okq (⟨"SnakeTradesModel", "does", "()Z"⟩, 14) := ⟨⟨by decide +kernel, by decide +kernel⟩, List.mem_of_getElem? (i := 607) (by decide +kernel), List.mem_of_getElem? (i := 828) (by decide +kernel), List.mem_of_getElem? (i := 829) (by decide +kernel)⟩
theorem lw_p41 : lw_okq (⟨"SnakeTradesModel", "tailsAt", "(I)I"⟩, 14) := ⟨⟨by decide +kernel, by decide +kernel⟩, List.mem_of_getElem? (i := 607) (by decide +kernel), List.mem_of_getElem? (i := 864) (by decide +kernel), List.mem_of_getElem? (i := 865) (by decide +kernel)⟩
theorem lw_p42 : lw_okq (⟨"SnakeTradesModel", "sumOf", "(I)I"⟩, 14) := ⟨⟨by decide +kernel, by decide +kernel⟩, List.mem_of_getElem? (i := 607) (by decide +kernel), List.mem_of_getElem? (i := 872) (by decide +kernel), List.mem_of_getElem? (i := 873) (by decide +kernel)⟩
theorem lw_p43 : lw_okq (⟨"SnakeTradesModel", "throwsHome", "()Z"⟩, 14) := ⟨⟨by decide +kernel, by decide +kernel⟩, List.mem_of_getElem? (i := 607) (by decide +kernel), List.mem_of_getElem? (i := 892) (by decide +kernel), List.mem_of_getElem? (i := 893) (by decide +kernel)⟩
def lw_privs_3 : List (MethodName × Nat) := [(⟨"SnakeTradesModel", "asks", "(II)I"⟩, 14), (⟨"SnakeTradesModel", "doSell", "(IIII)I"⟩, 14), (⟨"SnakeTradesModel", "readText", "(Z)Z"⟩, 14), (⟨"SnakeTradesModel", "readOrder", "()Z"⟩, 14), (⟨"SnakeTradesModel", "isNext", "(II)Z"⟩, 14), (⟨"SnakeTradesModel", "takes", "(I)Z"⟩, 14), (⟨"SnakeTradesModel", "take", "(III)Z"⟩, 14), (⟨"SnakeTradesModel", "readCoins", "()Z"⟩, 14), (⟨"SnakeTradesModel", "does", "()Z"⟩, 14), (⟨"SnakeTradesModel", "tailsAt", "(I)I"⟩, 14), (⟨"SnakeTradesModel", "sumOf", "(I)I"⟩, 14), (⟨"SnakeTradesModel", "throwsHome", "()Z"⟩, 14)]
theorem lw_r3 : ∀ q ∈ lw_privs_3, lw_okq q := List.forall_mem_cons.mpr ⟨lw_p32, List.forall_mem_cons.mpr ⟨lw_p33, List.forall_mem_cons.mpr ⟨lw_p34, List.forall_mem_cons.mpr ⟨lw_p35, List.forall_mem_cons.mpr ⟨lw_p36, List.forall_mem_cons.mpr ⟨lw_p37, List.forall_mem_cons.mpr ⟨lw_p38, List.forall_mem_cons.mpr ⟨lw_p39, List.forall_mem_cons.mpr ⟨lw_p40, List.forall_mem_cons.mpr ⟨lw_p41, List.forall_mem_cons.mpr ⟨lw_p42, List.forall_mem_cons.mpr ⟨lw_p43, fun _ h => absurd h List.not_mem_nil⟩⟩⟩⟩⟩⟩⟩⟩⟩⟩⟩⟩
def lw_privs : List (MethodName × Nat) := lw_privs_1 ++ (lw_privs_2 ++ (lw_privs_3))
def lw_tbl : List Cond := k2_sels lw_privs ++ tables_1
theorem lw_privs_ok : ∀ q ∈ lw_privs, lw_okq q := by
  show ∀ q ∈ lw_privs_1 ++ (lw_privs_2 ++ (lw_privs_3)), lw_okq q
  exact List.forall_mem_append.mpr ⟨lw_r1, List.forall_mem_append.mpr ⟨lw_r2, lw_r3⟩⟩
/-- the streams that the claim lets the run draw from -/
abbrev lw_cs : List Choice := [Jvm.Choice.named "NaN.bits"]
theorem lw_bits : nanBits ∈ lw_cs := by first | decide | exact List.mem_cons_self | simp [lw_cs, nanBits]
def RX0 : String := "SnakeTrades$Bite"
def TX0 : u_T := fun k => match k with
  | 0 => ("SnakeTrades$Bite", "size", "I", false)
  | 1 => ("SnakeTrades$Bite", "timesSold", "I", false)
  | 2 => ("SnakeTrades$Bite", "bitten", "I", false)
  | _ => ("SnakeTrades$Bite", "holders", "I", false)
def tyX0 : Nat → FieldType := fun k => match k with
  | 0 => .int
  | 1 => .int
  | 2 => .int
  | _ => .int
theorem nmX0 : ∀ a, a < 4 → ∀ b, b < 4 → a ≠ b → (TX0 a).2.1 ≠ (TX0 b).2.1 := by decide +kernel
theorem tyX0_ok : ∀ k, k < 4 → parseFieldDescriptor (TX0 k).2.2.1 = some (tyX0 k) := by decide +kernel
abbrev cX0_init : ByteArray := prog_2_method_1_code
def yX0_init : MethodName := ⟨RX0, "<init>", "()V"⟩
abbrev cX0_begin : ByteArray := prog_2_method_2_code
def yX0_begin : MethodName := ⟨RX0, "begin", "(II)V"⟩
abbrev cX0_copyFrom : ByteArray := prog_2_method_3_code
def yX0_copyFrom : MethodName := ⟨RX0, "copyFrom", "(LSnakeTrades$Bite;)V"⟩
abbrev cX0_passTo : ByteArray := prog_2_method_4_code
def yX0_passTo : MethodName := ⟨RX0, "passTo", "(I)V"⟩
abbrev cX0_wasHeldBy : ByteArray := prog_2_method_5_code
def yX0_wasHeldBy : MethodName := ⟨RX0, "wasHeldBy", "(I)Z"⟩
def RX1 : String := "SnakeTrades$Past"
def TX1 : u_T := fun k => match k with
  | 0 => ("SnakeTrades$Past", "states", "[LSnakeTrades$Race;", true)
  | _ => ("SnakeTrades$Past", "held", "I", false)
def tyX1 : Nat → FieldType := fun k => match k with
  | 0 => .array (.object "SnakeTrades$Race")
  | _ => .int
theorem nmX1 : ∀ a, a < 2 → ∀ b, b < 2 → a ≠ b → (TX1 a).2.1 ≠ (TX1 b).2.1 := by decide +kernel
theorem tyX1_ok : ∀ k, k < 2 → parseFieldDescriptor (TX1 k).2.2.1 = some (tyX1 k) := by decide +kernel
abbrev cX1_init : ByteArray := prog_3_method_1_code
def yX1_init : MethodName := ⟨RX1, "<init>", "()V"⟩
abbrev cX1_stateAt : ByteArray := prog_3_method_2_code
def yX1_stateAt : MethodName := ⟨RX1, "stateAt", "(I)LSnakeTrades$Race;"⟩
abbrev cX1_remember : ByteArray := prog_3_method_3_code
def yX1_remember : MethodName := ⟨RX1, "remember", "(LSnakeTrades$Race;)V"⟩
abbrev cX1_bringBack : ByteArray := prog_3_method_4_code
def yX1_bringBack : MethodName := ⟨RX1, "bringBack", "(LSnakeTrades$Race;)I"⟩
abbrev cX1_dropOldest : ByteArray := prog_3_method_5_code
def yX1_dropOldest : MethodName := ⟨RX1, "dropOldest", "()V"⟩
def RX2 : String := "SnakeTrades$Piece"
def TX2 : u_T := fun k => match k with
  | 0 => ("SnakeTrades$Piece", "bites", "[LSnakeTrades$Bite;", true)
  | 1 => ("SnakeTrades$Piece", "held", "I", false)
  | 2 => ("SnakeTrades$Piece", "square", "I", false)
  | 3 => ("SnakeTrades$Piece", "coins", "I", false)
  | 4 => ("SnakeTrades$Piece", "place", "I", false)
  | 5 => ("SnakeTrades$Piece", "timesBitten", "I", false)
  | _ => ("SnakeTrades$Piece", "movedBack", "I", false)
def tyX2 : Nat → FieldType := fun k => match k with
  | 0 => .array (.object "SnakeTrades$Bite")
  | 1 => .int
  | 2 => .int
  | 3 => .int
  | 4 => .int
  | 5 => .int
  | _ => .int
theorem nmX2 : ∀ a, a < 7 → ∀ b, b < 7 → a ≠ b → (TX2 a).2.1 ≠ (TX2 b).2.1 := by decide +kernel
theorem tyX2_ok : ∀ k, k < 7 → parseFieldDescriptor (TX2 k).2.2.1 = some (tyX2 k) := by decide +kernel
abbrev cX2_init : ByteArray := prog_4_method_1_code
def yX2_init : MethodName := ⟨RX2, "<init>", "()V"⟩
abbrev cX2_isInRace : ByteArray := prog_4_method_2_code
def yX2_isInRace : MethodName := ⟨RX2, "isInRace", "()Z"⟩
abbrev cX2_biteAt : ByteArray := prog_4_method_3_code
def yX2_biteAt : MethodName := ⟨RX2, "biteAt", "(I)LSnakeTrades$Bite;"⟩
abbrev cX2_sizesTogether : ByteArray := prog_4_method_4_code
def yX2_sizesTogether : MethodName := ⟨RX2, "sizesTogether", "()I"⟩
abbrev cX2_nextBeginning : ByteArray := prog_4_method_5_code
def yX2_nextBeginning : MethodName := ⟨RX2, "nextBeginning", "()I"⟩
abbrev cX2_hurt : ByteArray := prog_4_method_6_code
def yX2_hurt : MethodName := ⟨RX2, "hurt", "()V"⟩
abbrev cX2_newLast : ByteArray := prog_4_method_7_code
def yX2_newLast : MethodName := ⟨RX2, "newLast", "()LSnakeTrades$Bite;"⟩
abbrev cX2_remove : ByteArray := prog_4_method_8_code
def yX2_remove : MethodName := ⟨RX2, "remove", "(I)V"⟩
abbrev cX2_copyFrom : ByteArray := prog_4_method_9_code
def yX2_copyFrom : MethodName := ⟨RX2, "copyFrom", "(LSnakeTrades$Piece;)V"⟩
def RX3 : String := "SnakeTrades$Race"
def TX3 : u_T := fun k => match k with
  | 0 => ("SnakeTrades$Race", "pieces", "[LSnakeTrades$Piece;", true)
  | 1 => ("SnakeTrades$Race", "snakes", "[LSnakeTrades$Snake;", true)
  | 2 => ("SnakeTrades$Race", "sleepSetting", "I", false)
  | 3 => ("SnakeTrades$Race", "limitSetting", "I", false)
  | 4 => ("SnakeTrades$Race", "tradesSetting", "I", false)
  | 5 => ("SnakeTrades$Race", "mover", "I", false)
  | 6 => ("SnakeTrades$Race", "turns", "I", false)
  | 7 => ("SnakeTrades$Race", "arrived", "I", false)
  | 8 => ("SnakeTrades$Race", "bitesSoFar", "I", false)
  | _ => ("SnakeTrades$Race", "salesSoFar", "I", false)
def tyX3 : Nat → FieldType := fun k => match k with
  | 0 => .array (.object "SnakeTrades$Piece")
  | 1 => .array (.object "SnakeTrades$Snake")
  | 2 => .int
  | 3 => .int
  | 4 => .int
  | 5 => .int
  | 6 => .int
  | 7 => .int
  | 8 => .int
  | _ => .int
theorem nmX3 : ∀ a, a < 10 → ∀ b, b < 10 → a ≠ b → (TX3 a).2.1 ≠ (TX3 b).2.1 := by decide +kernel
theorem tyX3_ok : ∀ k, k < 10 → parseFieldDescriptor (TX3 k).2.2.1 = some (tyX3 k) := by decide +kernel
abbrev cX3_init : ByteArray := prog_5_method_1_code
def yX3_init : MethodName := ⟨RX3, "<init>", "()V"⟩
abbrev cX3_copyFrom : ByteArray := prog_5_method_2_code
def yX3_copyFrom : MethodName := ⟨RX3, "copyFrom", "(LSnakeTrades$Race;)V"⟩
abbrev cX3_pieceOf : ByteArray := prog_5_method_3_code
def yX3_pieceOf : MethodName := ⟨RX3, "pieceOf", "(I)LSnakeTrades$Piece;"⟩
abbrev cX3_biteOf : ByteArray := prog_5_method_4_code
def yX3_biteOf : MethodName := ⟨RX3, "biteOf", "(II)LSnakeTrades$Bite;"⟩
abbrev cX3_placeOfSnake : ByteArray := prog_5_method_5_code
def yX3_placeOfSnake : MethodName := ⟨RX3, "placeOfSnake", "(I)LSnakeTrades$Snake;"⟩
abbrev cX3_snakeNumbered : ByteArray := prog_5_method_6_code
def yX3_snakeNumbered : MethodName := ⟨RX3, "snakeNumbered", "(I)LSnakeTrades$Snake;"⟩
abbrev cX3_freeNumber : ByteArray := prog_5_method_7_code
def yX3_freeNumber : MethodName := ⟨RX3, "freeNumber", "()I"⟩
abbrev cX3_numberOfHeadOn : ByteArray := prog_5_method_8_code
def yX3_numberOfHeadOn : MethodName := ⟨RX3, "numberOfHeadOn", "(I)I"⟩
abbrev cX3_tailsOn : ByteArray := prog_5_method_9_code
def yX3_tailsOn : MethodName := ⟨RX3, "tailsOn", "(I)I"⟩
abbrev cX3_snakesThere : ByteArray := prog_5_method_10_code
def yX3_snakesThere : MethodName := ⟨RX3, "snakesThere", "()I"⟩
abbrev cX3_piecesOn : ByteArray := prog_5_method_11_code
def yX3_piecesOn : MethodName := ⟨RX3, "piecesOn", "(I)I"⟩
abbrev cX3_isInRace : ByteArray := prog_5_method_12_code
def yX3_isInRace : MethodName := ⟨RX3, "isInRace", "(I)Z"⟩
abbrev cX3_playersInRace : ByteArray := prog_5_method_13_code
def yX3_playersInRace : MethodName := ⟨RX3, "playersInRace", "()I"⟩
abbrev cX3_bitesHeld : ByteArray := prog_5_method_14_code
def yX3_bitesHeld : MethodName := ⟨RX3, "bitesHeld", "()I"⟩
abbrev cX3_coinsOfAll : ByteArray := prog_5_method_15_code
def yX3_coinsOfAll : MethodName := ⟨RX3, "coinsOfAll", "()I"⟩
abbrev cX3_settingOf : ByteArray := prog_5_method_16_code
def yX3_settingOf : MethodName := ⟨RX3, "settingOf", "(I)I"⟩
abbrev cX3_changeSetting : ByteArray := prog_5_method_17_code
def yX3_changeSetting : MethodName := ⟨RX3, "changeSetting", "(II)V"⟩
abbrev cX3_isOver : ByteArray := prog_5_method_18_code
def yX3_isOver : MethodName := ⟨RX3, "isOver", "()Z"⟩
abbrev cX3_makeTurn : ByteArray := prog_5_method_19_code
def yX3_makeTurn : MethodName := ⟨RX3, "makeTurn", "(I)I"⟩
abbrev cX3_biterOf : ByteArray := prog_5_method_20_code
def yX3_biterOf : MethodName := ⟨RX3, "biterOf", "(II)LSnakeTrades$Snake;"⟩
abbrev cX3_biteWith : ByteArray := prog_5_method_21_code
def yX3_biteWith : MethodName := ⟨RX3, "biteWith", "(LSnakeTrades$Snake;LSnakeTrades$Piece;I)V"⟩
abbrev cX3_shortenSleeps : ByteArray := prog_5_method_22_code
def yX3_shortenSleeps : MethodName := ⟨RX3, "shortenSleeps", "()V"⟩
abbrev cX3_moverAfter : ByteArray := prog_5_method_23_code
def yX3_moverAfter : MethodName := ⟨RX3, "moverAfter", "(I)I"⟩
abbrev cX3_beginningAfter : ByteArray := prog_5_method_24_code
def yX3_beginningAfter : MethodName := ⟨RX3, "beginningAfter", "(I)I"⟩
abbrev cX3_askedBy : ByteArray := prog_5_method_25_code
def yX3_askedBy : MethodName := ⟨RX3, "askedBy", "(ILSnakeTrades$Bite;)I"⟩
abbrev cX3_obstacle : ByteArray := prog_5_method_26_code
def yX3_obstacle : MethodName := ⟨RX3, "obstacle", "(IIII)I"⟩
abbrev cX3_trade : ByteArray := prog_5_method_27_code
def yX3_trade : MethodName := ⟨RX3, "trade", "(IIII)I"⟩
def RX4 : String := "SnakeTrades$Script"
def TX4 : u_T := fun k => match k with
  | 0 => ("SnakeTrades$Script", "signs", "[I", true)
  | _ => ("SnakeTrades$Script", "length", "I", false)
def tyX4 : Nat → FieldType := fun k => match k with
  | 0 => .array .int
  | _ => .int
theorem nmX4 : ∀ a, a < 2 → ∀ b, b < 2 → a ≠ b → (TX4 a).2.1 ≠ (TX4 b).2.1 := by decide +kernel
theorem tyX4_ok : ∀ k, k < 2 → parseFieldDescriptor (TX4 k).2.2.1 = some (tyX4 k) := by decide +kernel
abbrev cX4_init : ByteArray := prog_6_method_1_code
def yX4_init : MethodName := ⟨RX4, "<init>", "()V"⟩
abbrev cX4_signAt : ByteArray := prog_6_method_2_code
def yX4_signAt : MethodName := ⟨RX4, "signAt", "(I)I"⟩
abbrev cX4_add : ByteArray := prog_6_method_3_code
def yX4_add : MethodName := ⟨RX4, "add", "(I)Z"⟩
abbrev cX4_firstFault : ByteArray := prog_6_method_4_code
def yX4_firstFault : MethodName := ⟨RX4, "firstFault", "()I"⟩
abbrev cX4_readAfter : ByteArray := prog_6_method_5_code
def yX4_readAfter : MethodName := ⟨RX4, "readAfter", "(II)I"⟩
abbrev cX4_isFrom : ByteArray := prog_6_method_6_code
def yX4_isFrom : MethodName := ⟨RX4, "isFrom", "(III)Z"⟩
abbrev cX4_carryOut : ByteArray := prog_6_method_7_code
def yX4_carryOut : MethodName := ⟨RX4, "carryOut", "(LSnakeTrades$Race;)I"⟩
abbrev cX4_tradeFrom : ByteArray := prog_6_method_8_code
def yX4_tradeFrom : MethodName := ⟨RX4, "tradeFrom", "(LSnakeTrades$Race;II)I"⟩
def RX5 : String := "SnakeTrades$Search"
def TX5 : u_T := fun k => match k with
  | 0 => ("SnakeTrades$Search", "throwsTo", "[I", true)
  | 1 => ("SnakeTrades$Search", "queue", "[I", true)
  | _ => ("SnakeTrades$Search", "queued", "I", false)
def tyX5 : Nat → FieldType := fun k => match k with
  | 0 => .array .int
  | 1 => .array .int
  | _ => .int
theorem nmX5 : ∀ a, a < 3 → ∀ b, b < 3 → a ≠ b → (TX5 a).2.1 ≠ (TX5 b).2.1 := by decide +kernel
theorem tyX5_ok : ∀ k, k < 3 → parseFieldDescriptor (TX5 k).2.2.1 = some (tyX5 k) := by decide +kernel
abbrev cX5_init : ByteArray := prog_7_method_1_code
def yX5_init : MethodName := ⟨RX5, "<init>", "()V"⟩
abbrev cX5_onFrom : ByteArray := prog_7_method_2_code
def yX5_onFrom : MethodName := ⟨RX5, "onFrom", "(LSnakeTrades$Race;I)I"⟩
abbrev cX5_backTo : ByteArray := prog_7_method_3_code
def yX5_backTo : MethodName := ⟨RX5, "backTo", "(LSnakeTrades$Race;I)I"⟩
abbrev cX5_seeLandingsThatLeadTo : ByteArray := prog_7_method_4_code
def yX5_seeLandingsThatLeadTo : MethodName := ⟨RX5, "seeLandingsThatLeadTo", "(ILSnakeTrades$Race;)V"⟩
abbrev cX5_seeSquaresBefore : ByteArray := prog_7_method_5_code
def yX5_seeSquaresBefore : MethodName := ⟨RX5, "seeSquaresBefore", "(II)V"⟩
abbrev cX5_start : ByteArray := prog_7_method_6_code
def yX5_start : MethodName := ⟨RX5, "start", "(I)V"⟩
abbrev cX5_see : ByteArray := prog_7_method_7_code
def yX5_see : MethodName := ⟨RX5, "see", "(II)V"⟩
abbrev cX5_throwsAt : ByteArray := prog_7_method_8_code
def yX5_throwsAt : MethodName := ⟨RX5, "throwsAt", "(I)I"⟩
def RX6 : String := "SnakeTrades$Snake"
def TX6 : u_T := fun k => match k with
  | 0 => ("SnakeTrades$Snake", "head", "I", false)
  | 1 => ("SnakeTrades$Snake", "tail", "I", false)
  | 2 => ("SnakeTrades$Snake", "sleep", "I", false)
  | _ => ("SnakeTrades$Snake", "timesBiting", "I", false)
def tyX6 : Nat → FieldType := fun k => match k with
  | 0 => .int
  | 1 => .int
  | 2 => .int
  | _ => .int
theorem nmX6 : ∀ a, a < 4 → ∀ b, b < 4 → a ≠ b → (TX6 a).2.1 ≠ (TX6 b).2.1 := by decide +kernel
theorem tyX6_ok : ∀ k, k < 4 → parseFieldDescriptor (TX6 k).2.2.1 = some (tyX6 k) := by decide +kernel
abbrev cX6_init : ByteArray := prog_8_method_1_code
def yX6_init : MethodName := ⟨RX6, "<init>", "()V"⟩
abbrev cX6_isThere : ByteArray := prog_8_method_2_code
def yX6_isThere : MethodName := ⟨RX6, "isThere", "()Z"⟩
abbrev cX6_appear : ByteArray := prog_8_method_3_code
def yX6_appear : MethodName := ⟨RX6, "appear", "(II)V"⟩
abbrev cX6_vanish : ByteArray := prog_8_method_4_code
def yX6_vanish : MethodName := ⟨RX6, "vanish", "()V"⟩
abbrev cX6_copyFrom : ByteArray := prog_8_method_5_code
def yX6_copyFrom : MethodName := ⟨RX6, "copyFrom", "(LSnakeTrades$Snake;)V"⟩
def RX7 : String := "SnakeTrades"
def TX7 : u_T := fun k => match k with
  | 0 => ("SnakeTrades", "race", "LSnakeTrades$Race;", true)
  | 1 => ("SnakeTrades", "trial", "LSnakeTrades$Race;", true)
  | 2 => ("SnakeTrades", "snapshot", "LSnakeTrades$Race;", true)
  | 3 => ("SnakeTrades", "past", "LSnakeTrades$Past;", true)
  | 4 => ("SnakeTrades", "script", "LSnakeTrades$Script;", true)
  | 5 => ("SnakeTrades", "search", "LSnakeTrades$Search;", true)
  | _ => ("SnakeTrades", "hasSnapshot", "Z", false)
def tyX7 : Nat → FieldType := fun k => match k with
  | 0 => .object "SnakeTrades$Race"
  | 1 => .object "SnakeTrades$Race"
  | 2 => .object "SnakeTrades$Race"
  | 3 => .object "SnakeTrades$Past"
  | 4 => .object "SnakeTrades$Script"
  | 5 => .object "SnakeTrades$Search"
  | _ => .boolean
theorem nmX7 : ∀ a, a < 7 → ∀ b, b < 7 → a ≠ b → (TX7 a).2.1 ≠ (TX7 b).2.1 := by decide +kernel
theorem tyX7_ok : ∀ k, k < 7 → parseFieldDescriptor (TX7 k).2.2.1 = some (tyX7 k) := by decide +kernel
abbrev cX7_init : ByteArray := prog_1_method_1_code
def yX7_init : MethodName := ⟨RX7, "<init>", "()V"⟩
abbrev cX7_snake : ByteArray := prog_1_method_2_code
def yX7_snake : MethodName := ⟨RX7, "snake", "(II)I"⟩
abbrev cX7_charm : ByteArray := prog_1_method_3_code
def yX7_charm : MethodName := ⟨RX7, "charm", "(II)I"⟩
abbrev cX7_turn : ByteArray := prog_1_method_4_code
def yX7_turn : MethodName := ⟨RX7, "turn", "(I)I"⟩
abbrev cX7_play : ByteArray := prog_1_method_5_code
def yX7_play : MethodName := ⟨RX7, "play", "(II)I"⟩
abbrev cX7_sell : ByteArray := prog_1_method_6_code
def yX7_sell : MethodName := ⟨RX7, "sell", "(IIII)I"⟩
abbrev cX7_set : ByteArray := prog_1_method_7_code
def yX7_set : MethodName := ⟨RX7, "set", "(II)I"⟩
abbrev cX7_append : ByteArray := prog_1_method_8_code
def yX7_append : MethodName := ⟨RX7, "append", "(I)I"⟩
abbrev cX7_clearText : ByteArray := prog_1_method_9_code
def yX7_clearText : MethodName := ⟨RX7, "clearText", "()I"⟩
abbrev cX7_fault : ByteArray := prog_1_method_10_code
def yX7_fault : MethodName := ⟨RX7, "fault", "()I"⟩
abbrev cX7_run : ByteArray := prog_1_method_11_code
def yX7_run : MethodName := ⟨RX7, "run", "()I"⟩
abbrev cX7_undo : ByteArray := prog_1_method_12_code
def yX7_undo : MethodName := ⟨RX7, "undo", "()I"⟩
abbrev cX7_save : ByteArray := prog_1_method_13_code
def yX7_save : MethodName := ⟨RX7, "save", "()I"⟩
abbrev cX7_restore : ByteArray := prog_1_method_14_code
def yX7_restore : MethodName := ⟨RX7, "restore", "()I"⟩
abbrev cX7_player : ByteArray := prog_1_method_15_code
def yX7_player : MethodName := ⟨RX7, "player", "(II)I"⟩
abbrev cX7_bite : ByteArray := prog_1_method_16_code
def yX7_bite : MethodName := ⟨RX7, "bite", "(III)I"⟩
abbrev cX7_snakeOf : ByteArray := prog_1_method_17_code
def yX7_snakeOf : MethodName := ⟨RX7, "snakeOf", "(II)I"⟩
abbrev cX7_square : ByteArray := prog_1_method_18_code
def yX7_square : MethodName := ⟨RX7, "square", "(II)I"⟩
abbrev cX7_count : ByteArray := prog_1_method_19_code
def yX7_count : MethodName := ⟨RX7, "count", "(I)I"⟩
abbrev cX7_why : ByteArray := prog_1_method_20_code
def yX7_why : MethodName := ⟨RX7, "why", "(IIII)I"⟩
abbrev cX7_cheapest : ByteArray := prog_1_method_21_code
def yX7_cheapest : MethodName := ⟨RX7, "cheapest", "(II)I"⟩
abbrev cX7_dangers : ByteArray := prog_1_method_22_code
def yX7_dangers : MethodName := ⟨RX7, "dangers", "(I)I"⟩
abbrev cX7_fewest : ByteArray := prog_1_method_23_code
def yX7_fewest : MethodName := ⟨RX7, "fewest", "(II)I"⟩
abbrev cX7_nextHome : ByteArray := prog_1_method_24_code
def yX7_nextHome : MethodName := ⟨RX7, "nextHome", "(I)I"⟩
abbrev cX7_progress : ByteArray := prog_1_method_25_code
def yX7_progress : MethodName := ⟨RX7, "progress", "(I)D"⟩
abbrev cX7_isSnakeForm : ByteArray := prog_1_method_26_code
def yX7_isSnakeForm : MethodName := ⟨RX7, "isSnakeForm", "(II)Z"⟩
abbrev cX7_leastValue : ByteArray := prog_1_method_27_code
def yX7_leastValue : MethodName := ⟨RX7, "leastValue", "(I)I"⟩
abbrev cX7_highestValue : ByteArray := prog_1_method_28_code
def yX7_highestValue : MethodName := ⟨RX7, "highestValue", "(I)I"⟩
abbrev cX7_isDraw : ByteArray := prog_1_method_29_code
def yX7_isDraw : MethodName := ⟨RX7, "isDraw", "(I)Z"⟩
abbrev cX7_drawAfter : ByteArray := prog_1_method_30_code
def yX7_drawAfter : MethodName := ⟨RX7, "drawAfter", "(I)I"⟩
abbrev cX7_throwOf : ByteArray := prog_1_method_31_code
def yX7_throwOf : MethodName := ⟨RX7, "throwOf", "(I)I"⟩
abbrev cX7_landing : ByteArray := prog_1_method_32_code
def yX7_landing : MethodName := ⟨RX7, "landing", "(II)I"⟩
def RX8 : String := "SnakeTradesModel"
def TX8 : u_T := fun k => match k with
  | 0 => ("SnakeTradesModel", "s", "[I", true)
  | 1 => ("SnakeTradesModel", "history", "[I", true)
  | 2 => ("SnakeTradesModel", "kept", "I", false)
  | 3 => ("SnakeTradesModel", "snapshot", "[I", true)
  | 4 => ("SnakeTradesModel", "isTaken", "Z", false)
  | 5 => ("SnakeTradesModel", "before", "[I", true)
  | 6 => ("SnakeTradesModel", "text", "[I", true)
  | 7 => ("SnakeTradesModel", "length", "I", false)
  | 8 => ("SnakeTradesModel", "place", "I", false)
  | 9 => ("SnakeTradesModel", "dice", "I", false)
  | 10 => ("SnakeTradesModel", "told", "[I", true)
  | 11 => ("SnakeTradesModel", "done", "I", false)
  | 12 => ("SnakeTradesModel", "begins", "[Z", true)
  | _ => ("SnakeTradesModel", "beginsThen", "[Z", true)
def tyX8 : Nat → FieldType := fun k => match k with
  | 0 => .array .int
  | 1 => .array .int
  | 2 => .int
  | 3 => .array .int
  | 4 => .boolean
  | 5 => .array .int
  | 6 => .array .int
  | 7 => .int
  | 8 => .int
  | 9 => .int
  | 10 => .array .int
  | 11 => .int
  | 12 => .array .boolean
  | _ => .array .boolean
theorem nmX8 : ∀ a, a < 14 → ∀ b, b < 14 → a ≠ b → (TX8 a).2.1 ≠ (TX8 b).2.1 := by decide +kernel
theorem tyX8_ok : ∀ k, k < 14 → parseFieldDescriptor (TX8 k).2.2.1 = some (tyX8 k) := by decide +kernel
abbrev cX8_init : ByteArray := prog_10_method_1_code
def yX8_init : MethodName := ⟨RX8, "<init>", "()V"⟩
abbrev cX8_in : ByteArray := prog_10_method_3_code
def yX8_in : MethodName := ⟨RX8, "in", "(III)Z"⟩
abbrev cX8_isPlayer : ByteArray := prog_10_method_4_code
def yX8_isPlayer : MethodName := ⟨RX8, "isPlayer", "(I)Z"⟩
abbrev cX8_of : ByteArray := prog_10_method_5_code
def yX8_of : MethodName := ⟨RX8, "of", "(II)I"⟩
abbrev cX8_add : ByteArray := prog_10_method_6_code
def yX8_add : MethodName := ⟨RX8, "add", "(III)V"⟩
abbrev cX8_whereIs : ByteArray := prog_10_method_7_code
def yX8_whereIs : MethodName := ⟨RX8, "whereIs", "(II)I"⟩
abbrev cX8_isBite : ByteArray := prog_10_method_8_code
def yX8_isBite : MethodName := ⟨RX8, "isBite", "(II)Z"⟩
abbrev cX8_ofSnake : ByteArray := prog_10_method_9_code
def yX8_ofSnake : MethodName := ⟨RX8, "ofSnake", "(II)I"⟩
abbrev cX8_isSnake : ByteArray := prog_10_method_10_code
def yX8_isSnake : MethodName := ⟨RX8, "isSnake", "(I)Z"⟩
abbrev cX8_isIn : ByteArray := prog_10_method_11_code
def yX8_isIn : MethodName := ⟨RX8, "isIn", "(I)Z"⟩
abbrev cX8_isOver : ByteArray := prog_10_method_12_code
def yX8_isOver : MethodName := ⟨RX8, "isOver", "()Z"⟩
abbrev cX8_copy : ByteArray := prog_10_method_13_code
def yX8_copy : MethodName := ⟨RX8, "copy", "([II[II)V"⟩
abbrev cX8_record : ByteArray := prog_10_method_14_code
def yX8_record : MethodName := ⟨RX8, "record", "()V"⟩
abbrev cX8_snakeAt : ByteArray := prog_10_method_15_code
def yX8_snakeAt : MethodName := ⟨RX8, "snakeAt", "(I)I"⟩
abbrev cX8_snakes : ByteArray := prog_10_method_16_code
def yX8_snakes : MethodName := ⟨RX8, "snakes", "()I"⟩
abbrev cX8_goOn : ByteArray := prog_10_method_17_code
def yX8_goOn : MethodName := ⟨RX8, "goOn", "(II)I"⟩
abbrev cX8_hurts : ByteArray := prog_10_method_18_code
def yX8_hurts : MethodName := ⟨RX8, "hurts", "(I)I"⟩
abbrev cX8_beginsAt : ByteArray := prog_10_method_19_code
def yX8_beginsAt : MethodName := ⟨RX8, "beginsAt", "(I)I"⟩
abbrev cX8_piecesAt : ByteArray := prog_10_method_20_code
def yX8_piecesAt : MethodName := ⟨RX8, "piecesAt", "(I)I"⟩
abbrev cX8_bites : ByteArray := prog_10_method_21_code
def yX8_bites : MethodName := ⟨RX8, "bites", "(II)Z"⟩
abbrev cX8_getBite : ByteArray := prog_10_method_22_code
def yX8_getBite : MethodName := ⟨RX8, "getBite", "(II)V"⟩
abbrev cX8_beBitten : ByteArray := prog_10_method_23_code
def yX8_beBitten : MethodName := ⟨RX8, "beBitten", "(II)V"⟩
abbrev cX8_doTurn : ByteArray := prog_10_method_24_code
def yX8_doTurn : MethodName := ⟨RX8, "doTurn", "(I)I"⟩
abbrev cX8_draw : ByteArray := prog_10_method_25_code
def yX8_draw : MethodName := ⟨RX8, "draw", "(I)I"⟩
abbrev cX8_diceOf : ByteArray := prog_10_method_26_code
def yX8_diceOf : MethodName := ⟨RX8, "diceOf", "(I)I"⟩
abbrev cX8_asks : ByteArray := prog_10_method_27_code
def yX8_asks : MethodName := ⟨RX8, "asks", "(II)I"⟩
abbrev cX8_reason : ByteArray := prog_10_method_28_code
def yX8_reason : MethodName := ⟨RX8, "reason", "(IIII)I"⟩
abbrev cX8_sellError : ByteArray := prog_10_method_29_code
def yX8_sellError : MethodName := ⟨RX8, "sellError", "(IIII)I"⟩
abbrev cX8_doSell : ByteArray := prog_10_method_30_code
def yX8_doSell : MethodName := ⟨RX8, "doSell", "(IIII)I"⟩
abbrev cX8_snake : ByteArray := prog_10_method_31_code
def yX8_snake : MethodName := ⟨RX8, "snake", "(II)I"⟩
abbrev cX8_charm : ByteArray := prog_10_method_32_code
def yX8_charm : MethodName := ⟨RX8, "charm", "(II)I"⟩
abbrev cX8_turnError : ByteArray := prog_10_method_33_code
def yX8_turnError : MethodName := ⟨RX8, "turnError", "(I)I"⟩
abbrev cX8_turn : ByteArray := prog_10_method_34_code
def yX8_turn : MethodName := ⟨RX8, "turn", "(I)I"⟩
abbrev cX8_play : ByteArray := prog_10_method_35_code
def yX8_play : MethodName := ⟨RX8, "play", "(II)I"⟩
abbrev cX8_sell : ByteArray := prog_10_method_36_code
def yX8_sell : MethodName := ⟨RX8, "sell", "(IIII)I"⟩
abbrev cX8_set : ByteArray := prog_10_method_37_code
def yX8_set : MethodName := ⟨RX8, "set", "(II)I"⟩
abbrev cX8_append : ByteArray := prog_10_method_38_code
def yX8_append : MethodName := ⟨RX8, "append", "(I)I"⟩
abbrev cX8_clearText : ByteArray := prog_10_method_39_code
def yX8_clearText : MethodName := ⟨RX8, "clearText", "()I"⟩
abbrev cX8_isNext : ByteArray := prog_10_method_40_code
def yX8_isNext : MethodName := ⟨RX8, "isNext", "(II)Z"⟩
abbrev cX8_takes : ByteArray := prog_10_method_41_code
def yX8_takes : MethodName := ⟨RX8, "takes", "(I)Z"⟩
abbrev cX8_take : ByteArray := prog_10_method_42_code
def yX8_take : MethodName := ⟨RX8, "take", "(III)Z"⟩
abbrev cX8_readCoins : ByteArray := prog_10_method_43_code
def yX8_readCoins : MethodName := ⟨RX8, "readCoins", "()Z"⟩
abbrev cX8_readOrder : ByteArray := prog_10_method_44_code
def yX8_readOrder : MethodName := ⟨RX8, "readOrder", "()Z"⟩
abbrev cX8_does : ByteArray := prog_10_method_45_code
def yX8_does : MethodName := ⟨RX8, "does", "()Z"⟩
abbrev cX8_readText : ByteArray := prog_10_method_46_code
def yX8_readText : MethodName := ⟨RX8, "readText", "(Z)Z"⟩
abbrev cX8_fault : ByteArray := prog_10_method_47_code
def yX8_fault : MethodName := ⟨RX8, "fault", "()I"⟩
abbrev cX8_run : ByteArray := prog_10_method_48_code
def yX8_run : MethodName := ⟨RX8, "run", "()I"⟩
abbrev cX8_undo : ByteArray := prog_10_method_49_code
def yX8_undo : MethodName := ⟨RX8, "undo", "()I"⟩
abbrev cX8_save : ByteArray := prog_10_method_50_code
def yX8_save : MethodName := ⟨RX8, "save", "()I"⟩
abbrev cX8_restore : ByteArray := prog_10_method_51_code
def yX8_restore : MethodName := ⟨RX8, "restore", "()I"⟩
abbrev cX8_player : ByteArray := prog_10_method_52_code
def yX8_player : MethodName := ⟨RX8, "player", "(II)I"⟩
abbrev cX8_bite : ByteArray := prog_10_method_53_code
def yX8_bite : MethodName := ⟨RX8, "bite", "(III)I"⟩
abbrev cX8_snakeOf : ByteArray := prog_10_method_54_code
def yX8_snakeOf : MethodName := ⟨RX8, "snakeOf", "(II)I"⟩
abbrev cX8_tailsAt : ByteArray := prog_10_method_55_code
def yX8_tailsAt : MethodName := ⟨RX8, "tailsAt", "(I)I"⟩
abbrev cX8_square : ByteArray := prog_10_method_56_code
def yX8_square : MethodName := ⟨RX8, "square", "(II)I"⟩
abbrev cX8_sumOf : ByteArray := prog_10_method_57_code
def yX8_sumOf : MethodName := ⟨RX8, "sumOf", "(I)I"⟩
abbrev cX8_count : ByteArray := prog_10_method_58_code
def yX8_count : MethodName := ⟨RX8, "count", "(I)I"⟩
abbrev cX8_why : ByteArray := prog_10_method_59_code
def yX8_why : MethodName := ⟨RX8, "why", "(IIII)I"⟩
abbrev cX8_cheapest : ByteArray := prog_10_method_60_code
def yX8_cheapest : MethodName := ⟨RX8, "cheapest", "(II)I"⟩
abbrev cX8_dangers : ByteArray := prog_10_method_61_code
def yX8_dangers : MethodName := ⟨RX8, "dangers", "(I)I"⟩
abbrev cX8_throwsHome : ByteArray := prog_10_method_62_code
def yX8_throwsHome : MethodName := ⟨RX8, "throwsHome", "()Z"⟩
abbrev cX8_fewest : ByteArray := prog_10_method_63_code
def yX8_fewest : MethodName := ⟨RX8, "fewest", "(II)I"⟩
abbrev cX8_nextHome : ByteArray := prog_10_method_64_code
def yX8_nextHome : MethodName := ⟨RX8, "nextHome", "(I)I"⟩
abbrev cX8_progress : ByteArray := prog_10_method_65_code
def yX8_progress : MethodName := ⟨RX8, "progress", "(I)D"⟩
def RL : String := "SnakeTradesLaw"
abbrev cL_law : ByteArray := code
def yL_law : MethodName := ⟨RL, "law", "([I)Z"⟩
abbrev vwCl : List vw_C := [(RX0, TX0, 4), (RX1, TX1, 2), (RX2, TX2, 7), (RX3, TX3, 10), (RX4, TX4, 2), (RX5, TX5, 3), (RX6, TX6, 4), (RX7, TX7, 7), (RX8, TX8, 14)]
