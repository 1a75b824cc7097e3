section
-- ===== PART A: goes FIRST, ahead of the names: the tables' words, and 'selects' of the private methods out of them =====
/-- a private method of a class that the tables say can be made, by its rows of tables_1 -/
def lw_okq (q : MethodName × Nat) : Prop := (q.1.cls ≠ "java/lang/invoke/MethodHandle" ∧ q.1.cls ≠ "java/lang/invoke/VarHandle") ∧ Cond.instantiable q.1.cls q.2 ∈ tables_1 ∧ Cond.privateMethod q.1 ∈ tables_1 ∧ Cond.instanceMethod q.1 ∈ tables_1
theorem lw_p0 : lw_okq (⟨"SnakeTrades$Past", "dropOldest", "()V"⟩, 2) := ⟨⟨by decide +kernel, by decide +kernel⟩, List.mem_of_getElem? (i := 157) (by decide +kernel), List.mem_of_getElem? (i := 259) (by decide +kernel), List.mem_of_getElem? (i := 260) (by decide +kernel)⟩
theorem lw_p1 : lw_okq (⟨"SnakeTrades$Past", "stateAt", "(I)LSnakeTrades$Race;"⟩, 2) := ⟨⟨by decide +kernel, by decide +kernel⟩, List.mem_of_getElem? (i := 157) (by decide +kernel), List.mem_of_getElem? (i := 263) (by decide +kernel), List.mem_of_getElem? (i := 264) (by decide +kernel)⟩
theorem lw_p2 : lw_okq (⟨"SnakeTrades$Race", "biteWith", "(LSnakeTrades$Snake;LSnakeTrades$Piece;I)V"⟩, 10) := ⟨⟨by decide +kernel, by decide +kernel⟩, List.mem_of_getElem? (i := 19) (by decide +kernel), List.mem_of_getElem? (i := 341) (by decide +kernel), List.mem_of_getElem? (i := 342) (by decide +kernel)⟩
theorem lw_p3 : lw_okq (⟨"SnakeTrades$Race", "shortenSleeps", "()V"⟩, 10) := ⟨⟨by decide +kernel, by decide +kernel⟩, List.mem_of_getElem? (i := 19) (by decide +kernel), List.mem_of_getElem? (i := 357) (by decide +kernel), List.mem_of_getElem? (i := 358) (by decide +kernel)⟩
theorem lw_p4 : lw_okq (⟨"SnakeTrades$Race", "moverAfter", "(I)I"⟩, 10) := ⟨⟨by decide +kernel, by decide +kernel⟩, List.mem_of_getElem? (i := 19) (by decide +kernel), List.mem_of_getElem? (i := 361) (by decide +kernel), List.mem_of_getElem? (i := 362) (by decide +kernel)⟩
theorem lw_p5 : lw_okq (⟨"SnakeTrades$Script", "signAt", "(I)I"⟩, 2) := ⟨⟨by decide +kernel, by decide +kernel⟩, List.mem_of_getElem? (i := 174) (by decide +kernel), List.mem_of_getElem? (i := 457) (by decide +kernel), List.mem_of_getElem? (i := 458) (by decide +kernel)⟩
theorem lw_p6 : lw_okq (⟨"SnakeTrades$Script", "tradeFrom", "(LSnakeTrades$Race;II)I"⟩, 2) := ⟨⟨by decide +kernel, by decide +kernel⟩, List.mem_of_getElem? (i := 174) (by decide +kernel), List.mem_of_getElem? (i := 476) (by decide +kernel), List.mem_of_getElem? (i := 477) (by decide +kernel)⟩
theorem lw_p7 : lw_okq (⟨"SnakeTrades$Search", "start", "(I)V"⟩, 3) := ⟨⟨by decide +kernel, by decide +kernel⟩, List.mem_of_getElem? (i := 189) (by decide +kernel), List.mem_of_getElem? (i := 567) (by decide +kernel), List.mem_of_getElem? (i := 568) (by decide +kernel)⟩
theorem lw_p8 : lw_okq (⟨"SnakeTrades$Search", "see", "(II)V"⟩, 3) := ⟨⟨by decide +kernel, by decide +kernel⟩, List.mem_of_getElem? (i := 189) (by decide +kernel), List.mem_of_getElem? (i := 571) (by decide +kernel), List.mem_of_getElem? (i := 572) (by decide +kernel)⟩
theorem lw_p9 : lw_okq (⟨"SnakeTrades$Search", "throwsAt", "(I)I"⟩, 3) := ⟨⟨by decide +kernel, by decide +kernel⟩, List.mem_of_getElem? (i := 189) (by decide +kernel), List.mem_of_getElem? (i := 575) (by decide +kernel), List.mem_of_getElem? (i := 576) (by decide +kernel)⟩
theorem lw_p10 : lw_okq (⟨"SnakeTrades$Search", "seeLandingsThatLeadTo", "(ILSnakeTrades$Race;)V"⟩, 3) := ⟨⟨by decide +kernel, by decide +kernel⟩, List.mem_of_getElem? (i := 189) (by decide +kernel), List.mem_of_getElem? (i := 588) (by decide +kernel), List.mem_of_getElem? (i := 589) (by decide +kernel)⟩
theorem lw_p11 : lw_okq (⟨"SnakeTrades$Search", "seeSquaresBefore", "(II)V"⟩, 3) := ⟨⟨by decide +kernel, by decide +kernel⟩, List.mem_of_getElem? (i := 189) (by decide +kernel), List.mem_of_getElem? (i := 593) (by decide +kernel), List.mem_of_getElem? (i := 594) (by decide +kernel)⟩
theorem lw_p12 : lw_okq (⟨"SnakeTradesModel", "snakeAt", "(I)I"⟩, 14) := ⟨⟨by decide +kernel, by decide +kernel⟩, List.mem_of_getElem? (i := 607) (by decide +kernel), List.mem_of_getElem? (i := 664) (by decide +kernel), List.mem_of_getElem? (i := 665) (by decide +kernel)⟩
theorem lw_p13 : lw_okq (⟨"SnakeTradesModel", "ofSnake", "(II)I"⟩, 14) := ⟨⟨by decide +kernel, by decide +kernel⟩, List.mem_of_getElem? (i := 607) (by decide +kernel), List.mem_of_getElem? (i := 668) (by decide +kernel), List.mem_of_getElem? (i := 669) (by decide +kernel)⟩
theorem lw_p14 : lw_okq (⟨"SnakeTradesModel", "snakes", "()I"⟩, 14) := ⟨⟨by decide +kernel, by decide +kernel⟩, List.mem_of_getElem? (i := 607) (by decide +kernel), List.mem_of_getElem? (i := 672) (by decide +kernel), List.mem_of_getElem? (i := 673) (by decide +kernel)⟩
theorem lw_p15 : lw_okq (⟨"SnakeTradesModel", "record", "()V"⟩, 14) := ⟨⟨by decide +kernel, by decide +kernel⟩, List.mem_of_getElem? (i := 607) (by decide +kernel), List.mem_of_getElem? (i := 676) (by decide +kernel), List.mem_of_getElem? (i := 677) (by decide +kernel)⟩
def lw_privs_1 : List (MethodName × Nat) := [(⟨"SnakeTrades$Past", "dropOldest", "()V"⟩, 2), (⟨"SnakeTrades$Past", "stateAt", "(I)LSnakeTrades$Race;"⟩, 2), (⟨"SnakeTrades$Race", "biteWith", "(LSnakeTrades$Snake;LSnakeTrades$Piece;I)V"⟩, 10), (⟨"SnakeTrades$Race", "shortenSleeps", "()V"⟩, 10), (⟨"SnakeTrades$Race", "moverAfter", "(I)I"⟩, 10), (⟨"SnakeTrades$Script", "signAt", "(I)I"⟩, 2), (⟨"SnakeTrades$Script", "tradeFrom", "(LSnakeTrades$Race;II)I"⟩, 2), (⟨"SnakeTrades$Search", "start", "(I)V"⟩, 3), (⟨"SnakeTrades$Search", "see", "(II)V"⟩, 3), (⟨"SnakeTrades$Search", "throwsAt", "(I)I"⟩, 3), (⟨"SnakeTrades$Search", "seeLandingsThatLeadTo", "(ILSnakeTrades$Race;)V"⟩, 3), (⟨"SnakeTrades$Search", "seeSquaresBefore", "(II)V"⟩, 3), (⟨"SnakeTradesModel", "snakeAt", "(I)I"⟩, 14), (⟨"SnakeTradesModel", "ofSnake", "(II)I"⟩, 14), (⟨"SnakeTradesModel", "snakes", "()I"⟩, 14), (⟨"SnakeTradesModel", "record", "()V"⟩, 14)]
theorem lw_r1 : ∀ q ∈ lw_privs_1, lw_okq q := List.forall_mem_cons.mpr ⟨lw_p0, List.forall_mem_cons.mpr ⟨lw_p1, List.forall_mem_cons.mpr ⟨lw_p2, List.forall_mem_cons.mpr ⟨lw_p3, List.forall_mem_cons.mpr ⟨lw_p4, List.forall_mem_cons.mpr ⟨lw_p5, List.forall_mem_cons.mpr ⟨lw_p6, List.forall_mem_cons.mpr ⟨lw_p7, List.forall_mem_cons.mpr ⟨lw_p8, List.forall_mem_cons.mpr ⟨lw_p9, List.forall_mem_cons.mpr ⟨lw_p10, List.forall_mem_cons.mpr ⟨lw_p11, List.forall_mem_cons.mpr ⟨lw_p12, List.forall_mem_cons.mpr ⟨lw_p13, List.forall_mem_cons.mpr ⟨lw_p14, List.forall_mem_cons.mpr ⟨lw_p15, fun _ h => absurd h List.not_mem_nil⟩⟩⟩⟩⟩⟩⟩⟩⟩⟩⟩⟩⟩⟩⟩⟩
theorem lw_p16 : lw_okq (⟨"SnakeTradesModel", "isSnake", "(I)Z"⟩, 14) := ⟨⟨by decide +kernel, by decide +kernel⟩, List.mem_of_getElem? (i := 607) (by decide +kernel), List.mem_of_getElem? (i := 683) (by decide +kernel), List.mem_of_getElem? (i := 684) (by decide +kernel)⟩
theorem lw_p17 : lw_okq (⟨"SnakeTradesModel", "turnError", "(I)I"⟩, 14) := ⟨⟨by decide +kernel, by decide +kernel⟩, List.mem_of_getElem? (i := 607) (by decide +kernel), List.mem_of_getElem? (i := 695) (by decide +kernel), List.mem_of_getElem? (i := 696) (by decide +kernel)⟩
theorem lw_p18 : lw_okq (⟨"SnakeTradesModel", "isOver", "()Z"⟩, 14) := ⟨⟨by decide +kernel, by decide +kernel⟩, List.mem_of_getElem? (i := 607) (by decide +kernel), List.mem_of_getElem? (i := 699) (by decide +kernel), List.mem_of_getElem? (i := 700) (by decide +kernel)⟩
theorem lw_p19 : lw_okq (⟨"SnakeTradesModel", "doTurn", "(I)I"⟩, 14) := ⟨⟨by decide +kernel, by decide +kernel⟩, List.mem_of_getElem? (i := 607) (by decide +kernel), List.mem_of_getElem? (i := 703) (by decide +kernel), List.mem_of_getElem? (i := 704) (by decide +kernel)⟩
theorem lw_p20 : lw_okq (⟨"SnakeTradesModel", "beginsAt", "(I)I"⟩, 14) := ⟨⟨by decide +kernel, by decide +kernel⟩, List.mem_of_getElem? (i := 607) (by decide +kernel), List.mem_of_getElem? (i := 707) (by decide +kernel), List.mem_of_getElem? (i := 708) (by decide +kernel)⟩
theorem lw_p21 : lw_okq (⟨"SnakeTradesModel", "of", "(II)I"⟩, 14) := ⟨⟨by decide +kernel, by decide +kernel⟩, List.mem_of_getElem? (i := 607) (by decide +kernel), List.mem_of_getElem? (i := 711) (by decide +kernel), List.mem_of_getElem? (i := 712) (by decide +kernel)⟩
theorem lw_p22 : lw_okq (⟨"SnakeTradesModel", "hurts", "(I)I"⟩, 14) := ⟨⟨by decide +kernel, by decide +kernel⟩, List.mem_of_getElem? (i := 607) (by decide +kernel), List.mem_of_getElem? (i := 715) (by decide +kernel), List.mem_of_getElem? (i := 716) (by decide +kernel)⟩
theorem lw_p23 : lw_okq (⟨"SnakeTradesModel", "add", "(III)V"⟩, 14) := ⟨⟨by decide +kernel, by decide +kernel⟩, List.mem_of_getElem? (i := 607) (by decide +kernel), List.mem_of_getElem? (i := 722) (by decide +kernel), List.mem_of_getElem? (i := 723) (by decide +kernel)⟩
theorem lw_p24 : lw_okq (⟨"SnakeTradesModel", "bites", "(II)Z"⟩, 14) := ⟨⟨by decide +kernel, by decide +kernel⟩, List.mem_of_getElem? (i := 607) (by decide +kernel), List.mem_of_getElem? (i := 729) (by decide +kernel), List.mem_of_getElem? (i := 730) (by decide +kernel)⟩
theorem lw_p25 : lw_okq (⟨"SnakeTradesModel", "piecesAt", "(I)I"⟩, 14) := ⟨⟨by decide +kernel, by decide +kernel⟩, List.mem_of_getElem? (i := 607) (by decide +kernel), List.mem_of_getElem? (i := 733) (by decide +kernel), List.mem_of_getElem? (i := 734) (by decide +kernel)⟩
theorem lw_p26 : lw_okq (⟨"SnakeTradesModel", "beBitten", "(II)V"⟩, 14) := ⟨⟨by decide +kernel, by decide +kernel⟩, List.mem_of_getElem? (i := 607) (by decide +kernel), List.mem_of_getElem? (i := 737) (by decide +kernel), List.mem_of_getElem? (i := 738) (by decide +kernel)⟩
theorem lw_p27 : lw_okq (⟨"SnakeTradesModel", "getBite", "(II)V"⟩, 14) := ⟨⟨by decide +kernel, by decide +kernel⟩, List.mem_of_getElem? (i := 607) (by decide +kernel), List.mem_of_getElem? (i := 741) (by decide +kernel), List.mem_of_getElem? (i := 742) (by decide +kernel)⟩
theorem lw_p28 : lw_okq (⟨"SnakeTradesModel", "isIn", "(I)Z"⟩, 14) := ⟨⟨by decide +kernel, by decide +kernel⟩, List.mem_of_getElem? (i := 607) (by decide +kernel), List.mem_of_getElem? (i := 745) (by decide +kernel), List.mem_of_getElem? (i := 746) (by decide +kernel)⟩
theorem lw_p29 : lw_okq (⟨"SnakeTradesModel", "sellError", "(IIII)I"⟩, 14) := ⟨⟨by decide +kernel, by decide +kernel⟩, List.mem_of_getElem? (i := 607) (by decide +kernel), List.mem_of_getElem? (i := 765) (by decide +kernel), List.mem_of_getElem? (i := 766) (by decide +kernel)⟩
theorem lw_p30 : lw_okq (⟨"SnakeTradesModel", "isBite", "(II)Z"⟩, 14) := ⟨⟨by decide +kernel, by decide +kernel⟩, List.mem_of_getElem? (i := 607) (by decide +kernel), List.mem_of_getElem? (i := 769) (by decide +kernel), List.mem_of_getElem? (i := 770) (by decide +kernel)⟩
theorem lw_p31 : lw_okq (⟨"SnakeTradesModel", "reason", "(IIII)I"⟩, 14) := ⟨⟨by decide +kernel, by decide +kernel⟩, List.mem_of_getElem? (i := 607) (by decide +kernel), List.mem_of_getElem? (i := 776) (by decide +kernel), List.mem_of_getElem? (i := 777) (by decide +kernel)⟩
def lw_privs_2 : List (MethodName × Nat) := [(⟨"SnakeTradesModel", "isSnake", "(I)Z"⟩, 14), (⟨"SnakeTradesModel", "turnError", "(I)I"⟩, 14), (⟨"SnakeTradesModel", "isOver", "()Z"⟩, 14), (⟨"SnakeTradesModel", "doTurn", "(I)I"⟩, 14), (⟨"SnakeTradesModel", "beginsAt", "(I)I"⟩, 14), (⟨"SnakeTradesModel", "of", "(II)I"⟩, 14), (⟨"SnakeTradesModel", "hurts", "(I)I"⟩, 14), (⟨"SnakeTradesModel", "add", "(III)V"⟩, 14), (⟨"SnakeTradesModel", "bites", "(II)Z"⟩, 14), (⟨"SnakeTradesModel", "piecesAt", "(I)I"⟩, 14), (⟨"SnakeTradesModel", "beBitten", "(II)V"⟩, 14), (⟨"SnakeTradesModel", "getBite", "(II)V"⟩, 14), (⟨"SnakeTradesModel", "isIn", "(I)Z"⟩, 14), (⟨"SnakeTradesModel", "sellError", "(IIII)I"⟩, 14), (⟨"SnakeTradesModel", "isBite", "(II)Z"⟩, 14), (⟨"SnakeTradesModel", "reason", "(IIII)I"⟩, 14)]
theorem lw_r2 : ∀ q ∈ lw_privs_2, lw_okq q := List.forall_mem_cons.mpr ⟨lw_p16, List.forall_mem_cons.mpr ⟨lw_p17, List.forall_mem_cons.mpr ⟨lw_p18, List.forall_mem_cons.mpr ⟨lw_p19, List.forall_mem_cons.mpr ⟨lw_p20, List.forall_mem_cons.mpr ⟨lw_p21, List.forall_mem_cons.mpr ⟨lw_p22, List.forall_mem_cons.mpr ⟨lw_p23, List.forall_mem_cons.mpr ⟨lw_p24, List.forall_mem_cons.mpr ⟨lw_p25, List.forall_mem_cons.mpr ⟨lw_p26, List.forall_mem_cons.mpr ⟨lw_p27, List.forall_mem_cons.mpr ⟨lw_p28, List.forall_mem_cons.mpr ⟨lw_p29, List.forall_mem_cons.mpr ⟨lw_p30, List.forall_mem_cons.mpr ⟨lw_p31, fun _ h => absurd h List.not_mem_nil⟩⟩⟩⟩⟩⟩⟩⟩⟩⟩⟩⟩⟩⟩⟩⟩
theorem lw_p32 : lw_okq (⟨"SnakeTradesModel", "asks", "(II)I"⟩, 14) := ⟨⟨by decide +kernel, by decide +kernel⟩, List.mem_of_getElem? (i := 607) (by decide +kernel), List.mem_of_getElem? (i := 780) (by decide +kernel), List.mem_of_getElem? (i := 781) (by decide +kernel)⟩
theorem lw_p33 : lw_okq (⟨"SnakeTradesModel", "doSell", "(IIII)I"⟩, 14) := ⟨⟨by decide +kernel, by decide +kernel⟩, List.mem_of_getElem? (i := 607) (by decide +kernel), List.mem_of_getElem? (i := 784) (by decide +kernel), List.mem_of_getElem? (i := 785) (by decide +kernel)⟩
theorem lw_p34 : lw_okq (⟨"SnakeTradesModel", "readText", "(Z)Z"⟩, 14) := ⟨⟨by decide +kernel, by decide +kernel⟩, List.mem_of_getElem? (i := 607) (by decide +kernel), List.mem_of_getElem? (i := 804) (by decide +kernel), List.mem_of_getElem? (i := 805) (by decide +kernel)⟩
theorem lw_p35 : lw_okq (⟨"SnakeTradesModel", "readOrder", "()Z"⟩, 14) := ⟨⟨by decide +kernel, by decide +kernel⟩, List.mem_of_getElem? (i := 607) (by decide +kernel), List.mem_of_getElem? (i := 808) (by decide +kernel), List.mem_of_getElem? (i := 809) (by decide +kernel)⟩
theorem lw_p36 : lw_okq (⟨"SnakeTradesModel", "isNext", "(II)Z"⟩, 14) := ⟨⟨by decide +kernel, by decide +kernel⟩, List.mem_of_getElem? (i := 607) (by decide +kernel), List.mem_of_getElem? (i := 812) (by decide +kernel), List.mem_of_getElem? (i := 813) (by decide +kernel)⟩
theorem lw_p37 : lw_okq (⟨"SnakeTradesModel", "takes", "(I)Z"⟩, 14) := ⟨⟨by decide +kernel, by decide +kernel⟩, List.mem_of_getElem? (i := 607) (by decide +kernel), List.mem_of_getElem? (i := 816) (by decide +kernel), List.mem_of_getElem? (i := 817) (by decide +kernel)⟩
theorem lw_p38 : lw_okq (⟨"SnakeTradesModel", "take", "(III)Z"⟩, 14) := ⟨⟨by decide +kernel, by decide +kernel⟩, List.mem_of_getElem? (i := 607) (by decide +kernel), List.mem_of_getElem? (i := 820) (by decide +kernel), List.mem_of_getElem? (i := 821) (by decide +kernel)⟩
theorem lw_p39 : lw_okq (⟨"SnakeTradesModel", "readCoins", "()Z"⟩, 14) := ⟨⟨by decide +kernel, by decide +kernel⟩, List.mem_of_getElem? (i := 607) (by decide +kernel), List.mem_of_getElem? (i := 824) (by decide +kernel), List.mem_of_getElem? (i := 825) (by decide +kernel)⟩
theorem lw_p40 : lw_okq (⟨"SnakeTradesModel", "does", "()Z"⟩, 14) := ⟨⟨by decide +kernel, by decide +kernel⟩, List.mem_of_getElem? (i := 607) (by decide +kernel), List.mem_of_getElem? (i := 828) (by decide +kernel), List.mem_of_getElem? (i := 829) (by decide +kernel)⟩
theorem lw_p41 : lw_okq (⟨"SnakeTradesModel", "tailsAt", "(I)I"⟩, 14) := ⟨⟨by decide +kernel, by decide +kernel⟩, List.mem_of_getElem? (i := 607) (by decide +kernel), List.mem_of_getElem? (i := 864) (by decide +kernel), List.mem_of_getElem? (i := 865) (by decide +kernel)⟩
theorem lw_p42 : lw_okq (⟨"SnakeTradesModel", "sumOf", "(I)I"⟩, 14) := ⟨⟨by decide +kernel, by decide +kernel⟩, List.mem_of_getElem? (i := 607) (by decide +kernel), List.mem_of_getElem? (i := 872) (by decide +kernel), List.mem_of_getElem? (i := 873) (by decide +kernel)⟩
theorem lw_p43 : lw_okq (⟨"SnakeTradesModel", "throwsHome", "()Z"⟩, 14) := ⟨⟨by decide +kernel, by decide +kernel⟩, List.mem_of_getElem? (i := 607) (by decide +kernel), List.mem_of_getElem? (i := 892) (by decide +kernel), List.mem_of_getElem? (i := 893) (by decide +kernel)⟩
def lw_privs_3 : List (MethodName × Nat) := [(⟨"SnakeTradesModel", "asks", "(II)I"⟩, 14), (⟨"SnakeTradesModel", "doSell", "(IIII)I"⟩, 14), (⟨"SnakeTradesModel", "readText", "(Z)Z"⟩, 14), (⟨"SnakeTradesModel", "readOrder", "()Z"⟩, 14), (⟨"SnakeTradesModel", "isNext", "(II)Z"⟩, 14), (⟨"SnakeTradesModel", "takes", "(I)Z"⟩, 14), (⟨"SnakeTradesModel", "take", "(III)Z"⟩, 14), (⟨"SnakeTradesModel", "readCoins", "()Z"⟩, 14), (⟨"SnakeTradesModel", "does", "()Z"⟩, 14), (⟨"SnakeTradesModel", "tailsAt", "(I)I"⟩, 14), (⟨"SnakeTradesModel", "sumOf", "(I)I"⟩, 14), (⟨"SnakeTradesModel", "throwsHome", "()Z"⟩, 14)]
theorem lw_r3 : ∀ q ∈ lw_privs_3, lw_okq q := List.forall_mem_cons.mpr ⟨lw_p32, List.forall_mem_cons.mpr ⟨lw_p33, List.forall_mem_cons.mpr ⟨lw_p34, List.forall_mem_cons.mpr ⟨lw_p35, List.forall_mem_cons.mpr ⟨lw_p36, List.forall_mem_cons.mpr ⟨lw_p37, List.forall_mem_cons.mpr ⟨lw_p38, List.forall_mem_cons.mpr ⟨lw_p39, List.forall_mem_cons.mpr ⟨lw_p40, List.forall_mem_cons.mpr ⟨lw_p41, List.forall_mem_cons.mpr ⟨lw_p42, List.forall_mem_cons.mpr ⟨lw_p43, fun _ h => absurd h List.not_mem_nil⟩⟩⟩⟩⟩⟩⟩⟩⟩⟩⟩⟩
def lw_privs : List (MethodName × Nat) := lw_privs_1 ++ (lw_privs_2 ++ (lw_privs_3))
def lw_tbl : List Cond := k2_sels lw_privs ++ tables_1
theorem lw_privs_ok : ∀ q ∈ lw_privs, lw_okq q := by
  show ∀ q ∈ lw_privs_1 ++ (lw_privs_2 ++ (lw_privs_3)), lw_okq q
  exact List.forall_mem_append.mpr ⟨lw_r1, List.forall_mem_append.mpr ⟨lw_r2, lw_r3⟩⟩
/-- the streams that the claim lets the run draw from -/
abbrev lw_cs : List Choice := [Jvm.Choice.named "NaN.bits"]
theorem lw_bits : nanBits ∈ lw_cs := by first | decide | exact List.mem_cons_self | simp [lw_cs, nanBits]
def RX0 : String := "SnakeTrades$Bite"
def TX0 : u_T := fun k => match k with
  | 0 => ("SnakeTrades$Bite", "size", "I", false)
  | 1 => ("SnakeTrades$Bite", "timesSold", "I", false)
  | 2 => ("SnakeTrades$Bite", "bitten", "I", false)
  | _ => ("SnakeTrades$Bite", "holders", "I", false)
def tyX0 : Nat → FieldType := fun k => match k with
  | 0 => .int
  | 1 => .int
  | 2 => .int
  | _ => .int
theorem nmX0 : ∀ a, a < 4 → ∀ b, b < 4 → a ≠ b → (TX0 a).2.1 ≠ (TX0 b).2.1 := by decide +kernel
theorem tyX0_ok : ∀ k, k < 4 → parseFieldDescriptor (TX0 k).2.2.1 = some (tyX0 k) := by decide +kernel
abbrev cX0_init : ByteArray := prog_2_method_1_code
def yX0_init : MethodName := ⟨RX0, "<init>", "()V"⟩
abbrev cX0_begin : ByteArray := prog_2_method_2_code
def yX0_begin : MethodName := ⟨RX0, "begin", "(II)V"⟩
abbrev cX0_copyFrom : ByteArray := prog_2_method_3_code
def yX0_copyFrom : MethodName := ⟨RX0, "copyFrom", "(LSnakeTrades$Bite;)V"⟩
abbrev cX0_passTo : ByteArray := prog_2_method_4_code
def yX0_passTo : MethodName := ⟨RX0, "passTo", "(I)V"⟩
abbrev cX0_wasHeldBy : ByteArray := prog_2_method_5_code
def yX0_wasHeldBy : MethodName := ⟨RX0, "wasHeldBy", "(I)Z"⟩
def RX1 : String := "SnakeTrades$Past"
def TX1 : u_T := fun k => match k with
  | 0 => ("SnakeTrades$Past", "states", "[LSnakeTrades$Race;", true)
  | _ => ("SnakeTrades$Past", "held", "I", false)
def tyX1 : Nat → FieldType := fun k => match k with
  | 0 => .array (.object "SnakeTrades$Race")
  | _ => .int
theorem nmX1 : ∀ a, a < 2 → ∀ b, b < 2 → a ≠ b → (TX1 a).2.1 ≠ (TX1 b).2.1 := by decide +kernel
theorem tyX1_ok : ∀ k, k < 2 → parseFieldDescriptor (TX1 k).2.2.1 = some (tyX1 k) := by decide +kernel
abbrev cX1_init : ByteArray := prog_3_method_1_code
def yX1_init : MethodName := ⟨RX1, "<init>", "()V"⟩
abbrev cX1_stateAt : ByteArray := prog_3_method_2_code
def yX1_stateAt : MethodName := ⟨RX1, "stateAt", "(I)LSnakeTrades$Race;"⟩
abbrev cX1_remember : ByteArray := prog_3_method_3_code
def yX1_remember : MethodName := ⟨RX1, "remember", "(LSnakeTrades$Race;)V"⟩
abbrev cX1_bringBack : ByteArray := prog_3_method_4_code
def yX1_bringBack : MethodName := ⟨RX1, "bringBack", "(LSnakeTrades$Race;)I"⟩
abbrev cX1_dropOldest : ByteArray := prog_3_method_5_code
def yX1_dropOldest : MethodName := ⟨RX1, "dropOldest", "()V"⟩
def RX2 : String := "SnakeTrades$Piece"
def TX2 : u_T := fun k => match k with
  | 0 => ("SnakeTrades$Piece", "bites", "[LSnakeTrades$Bite;", true)
  | 1 => ("SnakeTrades$Piece", "held", "I", false)
  | 2 => ("SnakeTrades$Piece", "square", "I", false)
  | 3 => ("SnakeTrades$Piece", "coins", "I", false)
  | 4 => ("SnakeTrades$Piece", "place", "I", false)
  | 5 => ("SnakeTrades$Piece", "timesBitten", "I", false)
  | _ => ("SnakeTrades$Piece", "movedBack", "I", false)
def tyX2 : Nat → FieldType := fun k => match k with
  | 0 => .array (.object "SnakeTrades$Bite")
  | 1 => .int
  | 2 => .int
  | 3 => .int
  | 4 => .int
  | 5 => .int
  | _ => .int
theorem nmX2 : ∀ a, a < 7 → ∀ b, b < 7 → a ≠ b → (TX2 a).2.1 ≠ (TX2 b).2.1 := by decide +kernel
theorem tyX2_ok : ∀ k, k < 7 → parseFieldDescriptor (TX2 k).2.2.1 = some (tyX2 k) := by decide +kernel
abbrev cX2_init : ByteArray := prog_4_method_1_code
def yX2_init : MethodName := ⟨RX2, "<init>", "()V"⟩
abbrev cX2_isInRace : ByteArray := prog_4_method_2_code
def yX2_isInRace : MethodName := ⟨RX2, "isInRace", "()Z"⟩
abbrev cX2_biteAt : ByteArray := prog_4_method_3_code
def yX2_biteAt : MethodName := ⟨RX2, "biteAt", "(I)LSnakeTrades$Bite;"⟩
abbrev cX2_sizesTogether : ByteArray := prog_4_method_4_code
def yX2_sizesTogether : MethodName := ⟨RX2, "sizesTogether", "()I"⟩
abbrev cX2_nextBeginning : ByteArray := prog_4_method_5_code
def yX2_nextBeginning : MethodName := ⟨RX2, "nextBeginning", "()I"⟩
abbrev cX2_hurt : ByteArray := prog_4_method_6_code
def yX2_hurt : MethodName := ⟨RX2, "hurt", "()V"⟩
abbrev cX2_newLast : ByteArray := prog_4_method_7_code
def yX2_newLast : MethodName := ⟨RX2, "newLast", "()LSnakeTrades$Bite;"⟩
abbrev cX2_remove : ByteArray := prog_4_method_8_code
def yX2_remove : MethodName := ⟨RX2, "remove", "(I)V"⟩
abbrev cX2_copyFrom : ByteArray := prog_4_method_9_code
def yX2_copyFrom : MethodName := ⟨RX2, "copyFrom", "(LSnakeTrades$Piece;)V"⟩
def RX3 : String := "SnakeTrades$Race"
def TX3 : u_T := fun k => match k with
  | 0 => ("SnakeTrades$Race", "pieces", "[LSnakeTrades$Piece;", true)
  | 1 => ("SnakeTrades$Race", "snakes", "[LSnakeTrades$Snake;", true)
  | 2 => ("SnakeTrades$Race", "sleepSetting", "I", false)
  | 3 => ("SnakeTrades$Race", "limitSetting", "I", false)
  | 4 => ("SnakeTrades$Race", "tradesSetting", "I", false)
  | 5 => ("SnakeTrades$Race", "mover", "I", false)
  | 6 => ("SnakeTrades$Race", "turns", "I", false)
  | 7 => ("SnakeTrades$Race", "arrived", "I", false)
  | 8 => ("SnakeTrades$Race", "bitesSoFar", "I", false)
  | _ => ("SnakeTrades$Race", "salesSoFar", "I", false)
def tyX3 : Nat → FieldType := fun k => match k with
  | 0 => .array (.object "SnakeTrades$Piece")
  | 1 => .array (.object "SnakeTrades$Snake")
  | 2 => .int
  | 3 => .int
  | 4 => .int
  | 5 => .int
  | 6 => .int
  | 7 => .int
  | 8 => .int
  | _ => .int
theorem nmX3 : ∀ a, a < 10 → ∀ b, b < 10 → a ≠ b → (TX3 a).2.1 ≠ (TX3 b).2.1 := by decide +kernel
theorem tyX3_ok : ∀ k, k < 10 → parseFieldDescriptor (TX3 k).2.2.1 = some (tyX3 k) := by decide +kernel
abbrev cX3_init : ByteArray := prog_5_method_1_code
def yX3_init : MethodName := ⟨RX3, "<init>", "()V"⟩
abbrev cX3_copyFrom : ByteArray := prog_5_method_2_code
def yX3_copyFrom : MethodName := ⟨RX3, "copyFrom", "(LSnakeTrades$Race;)V"⟩
abbrev cX3_pieceOf : ByteArray := prog_5_method_3_code
def yX3_pieceOf : MethodName := ⟨RX3, "pieceOf", "(I)LSnakeTrades$Piece;"⟩
abbrev cX3_biteOf : ByteArray := prog_5_method_4_code
def yX3_biteOf : MethodName := ⟨RX3, "biteOf", "(II)LSnakeTrades$Bite;"⟩
abbrev cX3_placeOfSnake : ByteArray := prog_5_method_5_code
def yX3_placeOfSnake : MethodName := ⟨RX3, "placeOfSnake", "(I)LSnakeTrades$Snake;"⟩
abbrev cX3_snakeNumbered : ByteArray := prog_5_method_6_code
def yX3_snakeNumbered : MethodName := ⟨RX3, "snakeNumbered", "(I)LSnakeTrades$Snake;"⟩
abbrev cX3_freeNumber : ByteArray := prog_5_method_7_code
def yX3_freeNumber : MethodName := ⟨RX3, "freeNumber", "()I"⟩
abbrev cX3_numberOfHeadOn : ByteArray := prog_5_method_8_code
def yX3_numberOfHeadOn : MethodName := ⟨RX3, "numberOfHeadOn", "(I)I"⟩
abbrev cX3_tailsOn : ByteArray := prog_5_method_9_code
def yX3_tailsOn : MethodName := ⟨RX3, "tailsOn", "(I)I"⟩
abbrev cX3_snakesThere : ByteArray := prog_5_method_10_code
def yX3_snakesThere : MethodName := ⟨RX3, "snakesThere", "()I"⟩
abbrev cX3_piecesOn : ByteArray := prog_5_method_11_code
def yX3_piecesOn : MethodName := ⟨RX3, "piecesOn", "(I)I"⟩
abbrev cX3_isInRace : ByteArray := prog_5_method_12_code
def yX3_isInRace : MethodName := ⟨RX3, "isInRace", "(I)Z"⟩
abbrev cX3_playersInRace : ByteArray := prog_5_method_13_code
def yX3_playersInRace : MethodName := ⟨RX3, "playersInRace", "()I"⟩
abbrev cX3_bitesHeld : ByteArray := prog_5_method_14_code
def yX3_bitesHeld : MethodName := ⟨RX3, "bitesHeld", "()I"⟩
abbrev cX3_coinsOfAll : ByteArray := prog_5_method_15_code
def yX3_coinsOfAll : MethodName := ⟨RX3, "coinsOfAll", "()I"⟩
abbrev cX3_settingOf : ByteArray := prog_5_method_16_code
def yX3_settingOf : MethodName := ⟨RX3, "settingOf", "(I)I"⟩
abbrev cX3_changeSetting : ByteArray := prog_5_method_17_code
def yX3_changeSetting : MethodName := ⟨RX3, "changeSetting", "(II)V"⟩
abbrev cX3_isOver : ByteArray := prog_5_method_18_code
def yX3_isOver : MethodName := ⟨RX3, "isOver", "()Z"⟩
abbrev cX3_makeTurn : ByteArray := prog_5_method_19_code
def yX3_makeTurn : MethodName := ⟨RX3, "makeTurn", "(I)I"⟩
abbrev cX3_biterOf : ByteArray := prog_5_method_20_code
def yX3_biterOf : MethodName := ⟨RX3, "biterOf", "(II)LSnakeTrades$Snake;"⟩
abbrev cX3_biteWith : ByteArray := prog_5_method_21_code
def yX3_biteWith : MethodName := ⟨RX3, "biteWith", "(LSnakeTrades$Snake;LSnakeTrades$Piece;I)V"⟩
abbrev cX3_shortenSleeps : ByteArray := prog_5_method_22_code
def yX3_shortenSleeps : MethodName := ⟨RX3, "shortenSleeps", "()V"⟩
abbrev cX3_moverAfter : ByteArray := prog_5_method_23_code
def yX3_moverAfter : MethodName := ⟨RX3, "moverAfter", "(I)I"⟩
abbrev cX3_beginningAfter : ByteArray := prog_5_method_24_code
def yX3_beginningAfter : MethodName := ⟨RX3, "beginningAfter", "(I)I"⟩
abbrev cX3_askedBy : ByteArray := prog_5_method_25_code
def yX3_askedBy : MethodName := ⟨RX3, "askedBy", "(ILSnakeTrades$Bite;)I"⟩
abbrev cX3_obstacle : ByteArray := prog_5_method_26_code
def yX3_obstacle : MethodName := ⟨RX3, "obstacle", "(IIII)I"⟩
abbrev cX3_trade : ByteArray := prog_5_method_27_code
def yX3_trade : MethodName := ⟨RX3, "trade", "(IIII)I"⟩
def RX4 : String := "SnakeTrades$Script"
def TX4 : u_T := fun k => match k with
  | 0 => ("SnakeTrades$Script", "signs", "[I", true)
  | _ => ("SnakeTrades$Script", "length", "I", false)
def tyX4 : Nat → FieldType := fun k => match k with
  | 0 => .array .int
  | _ => .int
theorem nmX4 : ∀ a, a < 2 → ∀ b, b < 2 → a ≠ b → (TX4 a).2.1 ≠ (TX4 b).2.1 := by decide +kernel
theorem tyX4_ok : ∀ k, k < 2 → parseFieldDescriptor (TX4 k).2.2.1 = some (tyX4 k) := by decide +kernel
abbrev cX4_init : ByteArray := prog_6_method_1_code
def yX4_init : MethodName := ⟨RX4, "<init>", "()V"⟩
abbrev cX4_signAt : ByteArray := prog_6_method_2_code
def yX4_signAt : MethodName := ⟨RX4, "signAt", "(I)I"⟩
abbrev cX4_add : ByteArray := prog_6_method_3_code
def yX4_add : MethodName := ⟨RX4, "add", "(I)Z"⟩
abbrev cX4_firstFault : ByteArray := prog_6_method_4_code
def yX4_firstFault : MethodName := ⟨RX4, "firstFault", "()I"⟩
abbrev cX4_readAfter : ByteArray := prog_6_method_5_code
def yX4_readAfter : MethodName := ⟨RX4, "readAfter", "(II)I"⟩
abbrev cX4_isFrom : ByteArray := prog_6_method_6_code
def yX4_isFrom : MethodName := ⟨RX4, "isFrom", "(III)Z"⟩
abbrev cX4_carryOut : ByteArray := prog_6_method_7_code
def yX4_carryOut : MethodName := ⟨RX4, "carryOut", "(LSnakeTrades$Race;)I"⟩
abbrev cX4_tradeFrom : ByteArray := prog_6_method_8_code
def yX4_tradeFrom : MethodName := ⟨RX4, "tradeFrom", "(LSnakeTrades$Race;II)I"⟩
def RX5 : String := "SnakeTrades$Search"
def TX5 : u_T := fun k => match k with
  | 0 => ("SnakeTrades$Search", "throwsTo", "[I", true)
  | 1 => ("SnakeTrades$Search", "queue", "[I", true)
  | _ => ("SnakeTrades$Search", "queued", "I", false)
def tyX5 : Nat → FieldType := fun k => match k with
  | 0 => .array .int
  | 1 => .array .int
  | _ => .int
theorem nmX5 : ∀ a, a < 3 → ∀ b, b < 3 → a ≠ b → (TX5 a).2.1 ≠ (TX5 b).2.1 := by decide +kernel
theorem tyX5_ok : ∀ k, k < 3 → parseFieldDescriptor (TX5 k).2.2.1 = some (tyX5 k) := by decide +kernel
abbrev cX5_init : ByteArray := prog_7_method_1_code
def yX5_init : MethodName := ⟨RX5, "<init>", "()V"⟩
abbrev cX5_onFrom : ByteArray := prog_7_method_2_code
def yX5_onFrom : MethodName := ⟨RX5, "onFrom", "(LSnakeTrades$Race;I)I"⟩
abbrev cX5_backTo : ByteArray := prog_7_method_3_code
def yX5_backTo : MethodName := ⟨RX5, "backTo", "(LSnakeTrades$Race;I)I"⟩
abbrev cX5_seeLandingsThatLeadTo : ByteArray := prog_7_method_4_code
def yX5_seeLandingsThatLeadTo : MethodName := ⟨RX5, "seeLandingsThatLeadTo", "(ILSnakeTrades$Race;)V"⟩
abbrev cX5_seeSquaresBefore : ByteArray := prog_7_method_5_code
def yX5_seeSquaresBefore : MethodName := ⟨RX5, "seeSquaresBefore", "(II)V"⟩
abbrev cX5_start : ByteArray := prog_7_method_6_code
def yX5_start : MethodName := ⟨RX5, "start", "(I)V"⟩
abbrev cX5_see : ByteArray := prog_7_method_7_code
def yX5_see : MethodName := ⟨RX5, "see", "(II)V"⟩
abbrev cX5_throwsAt : ByteArray := prog_7_method_8_code
def yX5_throwsAt : MethodName := ⟨RX5, "throwsAt", "(I)I"⟩
def RX6 : String := "SnakeTrades$Snake"
def TX6 : u_T := fun k => match k with
  | 0 => ("SnakeTrades$Snake", "head", "I", false)
  | 1 => ("SnakeTrades$Snake", "tail", "I", false)
  | 2 => ("SnakeTrades$Snake", "sleep", "I", false)
  | _ => ("SnakeTrades$Snake", "timesBiting", "I", false)
def tyX6 : Nat → FieldType := fun k => match k with
  | 0 => .int
  | 1 => .int
  | 2 => .int
  | _ => .int
theorem nmX6 : ∀ a, a < 4 → ∀ b, b < 4 → a ≠ b → (TX6 a).2.1 ≠ (TX6 b).2.1 := by decide +kernel
theorem tyX6_ok : ∀ k, k < 4 → parseFieldDescriptor (TX6 k).2.2.1 = some (tyX6 k) := by decide +kernel
abbrev cX6_init : ByteArray := prog_8_method_1_code
def yX6_init : MethodName := ⟨RX6, "<init>", "()V"⟩
abbrev cX6_isThere : ByteArray := prog_8_method_2_code
def yX6_isThere : MethodName := ⟨RX6, "isThere", "()Z"⟩
abbrev cX6_appear : ByteArray := prog_8_method_3_code
def yX6_appear : MethodName := ⟨RX6, "appear", "(II)V"⟩
abbrev cX6_vanish : ByteArray := prog_8_method_4_code
def yX6_vanish : MethodName := ⟨RX6, "vanish", "()V"⟩
abbrev cX6_copyFrom : ByteArray := prog_8_method_5_code
def yX6_copyFrom : MethodName := ⟨RX6, "copyFrom", "(LSnakeTrades$Snake;)V"⟩
def RX7 : String := "SnakeTrades"
def TX7 : u_T := fun k => match k with
  | 0 => ("SnakeTrades", "race", "LSnakeTrades$Race;", true)
  | 1 => ("SnakeTrades", "trial", "LSnakeTrades$Race;", true)
  | 2 => ("SnakeTrades", "snapshot", "LSnakeTrades$Race;", true)
  | 3 => ("SnakeTrades", "past", "LSnakeTrades$Past;", true)
  | 4 => ("SnakeTrades", "script", "LSnakeTrades$Script;", true)
  | 5 => ("SnakeTrades", "search", "LSnakeTrades$Search;", true)
  | _ => ("SnakeTrades", "hasSnapshot", "Z", false)
def tyX7 : Nat → FieldType := fun k => match k with
  | 0 => .object "SnakeTrades$Race"
  | 1 => .object "SnakeTrades$Race"
  | 2 => .object "SnakeTrades$Race"
  | 3 => .object "SnakeTrades$Past"
  | 4 => .object "SnakeTrades$Script"
  | 5 => .object "SnakeTrades$Search"
  | _ => .boolean
theorem nmX7 : ∀ a, a < 7 → ∀ b, b < 7 → a ≠ b → (TX7 a).2.1 ≠ (TX7 b).2.1 := by decide +kernel
theorem tyX7_ok : ∀ k, k < 7 → parseFieldDescriptor (TX7 k).2.2.1 = some (tyX7 k) := by decide +kernel
abbrev cX7_init : ByteArray := prog_1_method_1_code
def yX7_init : MethodName := ⟨RX7, "<init>", "()V"⟩
abbrev cX7_snake : ByteArray := prog_1_method_2_code
def yX7_snake : MethodName := ⟨RX7, "snake", "(II)I"⟩
abbrev cX7_charm : ByteArray := prog_1_method_3_code
def yX7_charm : MethodName := ⟨RX7, "charm", "(II)I"⟩
abbrev cX7_turn : ByteArray := prog_1_method_4_code
def yX7_turn : MethodName := ⟨RX7, "turn", "(I)I"⟩
abbrev cX7_play : ByteArray := prog_1_method_5_code
def yX7_play : MethodName := ⟨RX7, "play", "(II)I"⟩
abbrev cX7_sell : ByteArray := prog_1_method_6_code
def yX7_sell : MethodName := ⟨RX7, "sell", "(IIII)I"⟩
abbrev cX7_set : ByteArray := prog_1_method_7_code
def yX7_set : MethodName := ⟨RX7, "set", "(II)I"⟩
abbrev cX7_append : ByteArray := prog_1_method_8_code
def yX7_append : MethodName := ⟨RX7, "append", "(I)I"⟩
abbrev cX7_clearText : ByteArray := prog_1_method_9_code
def yX7_clearText : MethodName := ⟨RX7, "clearText", "()I"⟩
abbrev cX7_fault : ByteArray := prog_1_method_10_code
def yX7_fault : MethodName := ⟨RX7, "fault", "()I"⟩
abbrev cX7_run : ByteArray := prog_1_method_11_code
def yX7_run : MethodName := ⟨RX7, "run", "()I"⟩
abbrev cX7_undo : ByteArray := prog_1_method_12_code
def yX7_undo : MethodName := ⟨RX7, "undo", "()I"⟩
abbrev cX7_save : ByteArray := prog_1_method_13_code
def yX7_save : MethodName := ⟨RX7, "save", "()I"⟩
abbrev cX7_restore : ByteArray := prog_1_method_14_code
def yX7_restore : MethodName := ⟨RX7, "restore", "()I"⟩
abbrev cX7_player : ByteArray := prog_1_method_15_code
def yX7_player : MethodName := ⟨RX7, "player", "(II)I"⟩
abbrev cX7_bite : ByteArray := prog_1_method_16_code
def yX7_bite : MethodName := ⟨RX7, "bite", "(III)I"⟩
abbrev cX7_snakeOf : ByteArray := prog_1_method_17_code
def yX7_snakeOf : MethodName := ⟨RX7, "snakeOf", "(II)I"⟩
abbrev cX7_square : ByteArray := prog_1_method_18_code
def yX7_square : MethodName := ⟨RX7, "square", "(II)I"⟩
abbrev cX7_count : ByteArray := prog_1_method_19_code
def yX7_count : MethodName := ⟨RX7, "count", "(I)I"⟩
abbrev cX7_why : ByteArray := prog_1_method_20_code
def yX7_why : MethodName := ⟨RX7, "why", "(IIII)I"⟩
abbrev cX7_cheapest : ByteArray := prog_1_method_21_code
def yX7_cheapest : MethodName := ⟨RX7, "cheapest", "(II)I"⟩
abbrev cX7_dangers : ByteArray := prog_1_method_22_code
def yX7_dangers : MethodName := ⟨RX7, "dangers", "(I)I"⟩
abbrev cX7_fewest : ByteArray := prog_1_method_23_code
def yX7_fewest : MethodName := ⟨RX7, "fewest", "(II)I"⟩
abbrev cX7_nextHome : ByteArray := prog_1_method_24_code
def yX7_nextHome : MethodName := ⟨RX7, "nextHome", "(I)I"⟩
abbrev cX7_progress : ByteArray := prog_1_method_25_code
def yX7_progress : MethodName := ⟨RX7, "progress", "(I)D"⟩
abbrev cX7_isSnakeForm : ByteArray := prog_1_method_26_code
def yX7_isSnakeForm : MethodName := ⟨RX7, "isSnakeForm", "(II)Z"⟩
abbrev cX7_leastValue : ByteArray := prog_1_method_27_code
def yX7_leastValue : MethodName := ⟨RX7, "leastValue", "(I)I"⟩
abbrev cX7_highestValue : ByteArray := prog_1_method_28_code
def yX7_highestValue : MethodName := ⟨RX7, "highestValue", "(I)I"⟩
abbrev cX7_isDraw : ByteArray := prog_1_method_29_code
def yX7_isDraw : MethodName := ⟨RX7, "isDraw", "(I)Z"⟩
abbrev cX7_drawAfter : ByteArray := prog_1_method_30_code
def yX7_drawAfter : MethodName := ⟨RX7, "drawAfter", "(I)I"⟩
abbrev cX7_throwOf : ByteArray := prog_1_method_31_code
def yX7_throwOf : MethodName := ⟨RX7, "throwOf", "(I)I"⟩
abbrev cX7_landing : ByteArray := prog_1_method_32_code
def yX7_landing : MethodName := ⟨RX7, "landing", "(II)I"⟩
def RX8 : String := "SnakeTradesModel"
def TX8 : u_T := fun k => match k with
  | 0 => ("SnakeTradesModel", "s", "[I", true)
  | 1 => ("SnakeTradesModel", "history", "[I", true)
  | 2 => ("SnakeTradesModel", "kept", "I", false)
  | 3 => ("SnakeTradesModel", "snapshot", "[I", true)
  | 4 => ("SnakeTradesModel", "isTaken", "Z", false)
  | 5 => ("SnakeTradesModel", "before", "[I", true)
  | 6 => ("SnakeTradesModel", "text", "[I", true)
  | 7 => ("SnakeTradesModel", "length", "I", false)
  | 8 => ("SnakeTradesModel", "place", "I", false)
  | 9 => ("SnakeTradesModel", "dice", "I", false)
  | 10 => ("SnakeTradesModel", "told", "[I", true)
  | 11 => ("SnakeTradesModel", "done", "I", false)
  | 12 => ("SnakeTradesModel", "begins", "[Z", true)
  | _ => ("SnakeTradesModel", "beginsThen", "[Z", true)
def tyX8 : Nat → FieldType := fun k => match k with
  | 0 => .array .int
  | 1 => .array .int
  | 2 => .int
  | 3 => .array .int
  | 4 => .boolean
  | 5 => .array .int
  | 6 => .array .int
  | 7 => .int
  | 8 => .int
  | 9 => .int
  | 10 => .array .int
  | 11 => .int
  | 12 => .array .boolean
  | _ => .array .boolean
theorem nmX8 : ∀ a, a < 14 → ∀ b, b < 14 → a ≠ b → (TX8 a).2.1 ≠ (TX8 b).2.1 := by decide +kernel
theorem tyX8_ok : ∀ k, k < 14 → parseFieldDescriptor (TX8 k).2.2.1 = some (tyX8 k) := by decide +kernel
abbrev cX8_init : ByteArray := prog_10_method_1_code
def yX8_init : MethodName := ⟨RX8, "<init>", "()V"⟩
abbrev cX8_in : ByteArray := prog_10_method_3_code
def yX8_in : MethodName := ⟨RX8, "in", "(III)Z"⟩
abbrev cX8_isPlayer : ByteArray := prog_10_method_4_code
def yX8_isPlayer : MethodName := ⟨RX8, "isPlayer", "(I)Z"⟩
abbrev cX8_of : ByteArray := prog_10_method_5_code
def yX8_of : MethodName := ⟨RX8, "of", "(II)I"⟩
abbrev cX8_add : ByteArray := prog_10_method_6_code
def yX8_add : MethodName := ⟨RX8, "add", "(III)V"⟩
abbrev cX8_whereIs : ByteArray := prog_10_method_7_code
def yX8_whereIs : MethodName := ⟨RX8, "whereIs", "(II)I"⟩
abbrev cX8_isBite : ByteArray := prog_10_method_8_code
def yX8_isBite : MethodName := ⟨RX8, "isBite", "(II)Z"⟩
abbrev cX8_ofSnake : ByteArray := prog_10_method_9_code
def yX8_ofSnake : MethodName := ⟨RX8, "ofSnake", "(II)I"⟩
abbrev cX8_isSnake : ByteArray := prog_10_method_10_code
def yX8_isSnake : MethodName := ⟨RX8, "isSnake", "(I)Z"⟩
abbrev cX8_isIn : ByteArray := prog_10_method_11_code
def yX8_isIn : MethodName := ⟨RX8, "isIn", "(I)Z"⟩
abbrev cX8_isOver : ByteArray := prog_10_method_12_code
def yX8_isOver : MethodName := ⟨RX8, "isOver", "()Z"⟩
abbrev cX8_copy : ByteArray := prog_10_method_13_code
def yX8_copy : MethodName := ⟨RX8, "copy", "([II[II)V"⟩
abbrev cX8_record : ByteArray := prog_10_method_14_code
def yX8_record : MethodName := ⟨RX8, "record", "()V"⟩
abbrev cX8_snakeAt : ByteArray := prog_10_method_15_code
def yX8_snakeAt : MethodName := ⟨RX8, "snakeAt", "(I)I"⟩
abbrev cX8_snakes : ByteArray := prog_10_method_16_code
def yX8_snakes : MethodName := ⟨RX8, "snakes", "()I"⟩
abbrev cX8_goOn : ByteArray := prog_10_method_17_code
def yX8_goOn : MethodName := ⟨RX8, "goOn", "(II)I"⟩
abbrev cX8_hurts : ByteArray := prog_10_method_18_code
def yX8_hurts : MethodName := ⟨RX8, "hurts", "(I)I"⟩
abbrev cX8_beginsAt : ByteArray := prog_10_method_19_code
def yX8_beginsAt : MethodName := ⟨RX8, "beginsAt", "(I)I"⟩
abbrev cX8_piecesAt : ByteArray := prog_10_method_20_code
def yX8_piecesAt : MethodName := ⟨RX8, "piecesAt", "(I)I"⟩
abbrev cX8_bites : ByteArray := prog_10_method_21_code
def yX8_bites : MethodName := ⟨RX8, "bites", "(II)Z"⟩
abbrev cX8_getBite : ByteArray := prog_10_method_22_code
def yX8_getBite : MethodName := ⟨RX8, "getBite", "(II)V"⟩
abbrev cX8_beBitten : ByteArray := prog_10_method_23_code
def yX8_beBitten : MethodName := ⟨RX8, "beBitten", "(II)V"⟩
abbrev cX8_doTurn : ByteArray := prog_10_method_24_code
def yX8_doTurn : MethodName := ⟨RX8, "doTurn", "(I)I"⟩
abbrev cX8_draw : ByteArray := prog_10_method_25_code
def yX8_draw : MethodName := ⟨RX8, "draw", "(I)I"⟩
abbrev cX8_diceOf : ByteArray := prog_10_method_26_code
def yX8_diceOf : MethodName := ⟨RX8, "diceOf", "(I)I"⟩
abbrev cX8_asks : ByteArray := prog_10_method_27_code
def yX8_asks : MethodName := ⟨RX8, "asks", "(II)I"⟩
abbrev cX8_reason : ByteArray := prog_10_method_28_code
def yX8_reason : MethodName := ⟨RX8, "reason", "(IIII)I"⟩
abbrev cX8_sellError : ByteArray := prog_10_method_29_code
def yX8_sellError : MethodName := ⟨RX8, "sellError", "(IIII)I"⟩
abbrev cX8_doSell : ByteArray := prog_10_method_30_code
def yX8_doSell : MethodName := ⟨RX8, "doSell", "(IIII)I"⟩
abbrev cX8_snake : ByteArray := prog_10_method_31_code
def yX8_snake : MethodName := ⟨RX8, "snake", "(II)I"⟩
abbrev cX8_charm : ByteArray := prog_10_method_32_code
def yX8_charm : MethodName := ⟨RX8, "charm", "(II)I"⟩
abbrev cX8_turnError : ByteArray := prog_10_method_33_code
def yX8_turnError : MethodName := ⟨RX8, "turnError", "(I)I"⟩
abbrev cX8_turn : ByteArray := prog_10_method_34_code
def yX8_turn : MethodName := ⟨RX8, "turn", "(I)I"⟩
abbrev cX8_play : ByteArray := prog_10_method_35_code
def yX8_play : MethodName := ⟨RX8, "play", "(II)I"⟩
abbrev cX8_sell : ByteArray := prog_10_method_36_code
def yX8_sell : MethodName := ⟨RX8, "sell", "(IIII)I"⟩
abbrev cX8_set : ByteArray := prog_10_method_37_code
def yX8_set : MethodName := ⟨RX8, "set", "(II)I"⟩
abbrev cX8_append : ByteArray := prog_10_method_38_code
def yX8_append : MethodName := ⟨RX8, "append", "(I)I"⟩
abbrev cX8_clearText : ByteArray := prog_10_method_39_code
def yX8_clearText : MethodName := ⟨RX8, "clearText", "()I"⟩
abbrev cX8_isNext : ByteArray := prog_10_method_40_code
def yX8_isNext : MethodName := ⟨RX8, "isNext", "(II)Z"⟩
abbrev cX8_takes : ByteArray := prog_10_method_41_code
def yX8_takes : MethodName := ⟨RX8, "takes", "(I)Z"⟩
abbrev cX8_take : ByteArray := prog_10_method_42_code
def yX8_take : MethodName := ⟨RX8, "take", "(III)Z"⟩
abbrev cX8_readCoins : ByteArray := prog_10_method_43_code
def yX8_readCoins : MethodName := ⟨RX8, "readCoins", "()Z"⟩
abbrev cX8_readOrder : ByteArray := prog_10_method_44_code
def yX8_readOrder : MethodName := ⟨RX8, "readOrder", "()Z"⟩
abbrev cX8_does : ByteArray := prog_10_method_45_code
def yX8_does : MethodName := ⟨RX8, "does", "()Z"⟩
abbrev cX8_readText : ByteArray := prog_10_method_46_code
def yX8_readText : MethodName := ⟨RX8, "readText", "(Z)Z"⟩
abbrev cX8_fault : ByteArray := prog_10_method_47_code
def yX8_fault : MethodName := ⟨RX8, "fault", "()I"⟩
abbrev cX8_run : ByteArray := prog_10_method_48_code
def yX8_run : MethodName := ⟨RX8, "run", "()I"⟩
abbrev cX8_undo : ByteArray := prog_10_method_49_code
def yX8_undo : MethodName := ⟨RX8, "undo", "()I"⟩
abbrev cX8_save : ByteArray := prog_10_method_50_code
def yX8_save : MethodName := ⟨RX8, "save", "()I"⟩
abbrev cX8_restore : ByteArray := prog_10_method_51_code
def yX8_restore : MethodName := ⟨RX8, "restore", "()I"⟩
abbrev cX8_player : ByteArray := prog_10_method_52_code
def yX8_player : MethodName := ⟨RX8, "player", "(II)I"⟩
abbrev cX8_bite : ByteArray := prog_10_method_53_code
def yX8_bite : MethodName := ⟨RX8, "bite", "(III)I"⟩
abbrev cX8_snakeOf : ByteArray := prog_10_method_54_code
def yX8_snakeOf : MethodName := ⟨RX8, "snakeOf", "(II)I"⟩
abbrev cX8_tailsAt : ByteArray := prog_10_method_55_code
def yX8_tailsAt : MethodName := ⟨RX8, "tailsAt", "(I)I"⟩
abbrev cX8_square : ByteArray := prog_10_method_56_code
def yX8_square : MethodName := ⟨RX8, "square", "(II)I"⟩
abbrev cX8_sumOf : ByteArray := prog_10_method_57_code
def yX8_sumOf : MethodName := ⟨RX8, "sumOf", "(I)I"⟩
abbrev cX8_count : ByteArray := prog_10_method_58_code
def yX8_count : MethodName := ⟨RX8, "count", "(I)I"⟩
abbrev cX8_why : ByteArray := prog_10_method_59_code
def yX8_why : MethodName := ⟨RX8, "why", "(IIII)I"⟩
abbrev cX8_cheapest : ByteArray := prog_10_method_60_code
def yX8_cheapest : MethodName := ⟨RX8, "cheapest", "(II)I"⟩
abbrev cX8_dangers : ByteArray := prog_10_method_61_code
def yX8_dangers : MethodName := ⟨RX8, "dangers", "(I)I"⟩
abbrev cX8_throwsHome : ByteArray := prog_10_method_62_code
def yX8_throwsHome : MethodName := ⟨RX8, "throwsHome", "()Z"⟩
abbrev cX8_fewest : ByteArray := prog_10_method_63_code
def yX8_fewest : MethodName := ⟨RX8, "fewest", "(II)I"⟩
abbrev cX8_nextHome : ByteArray := prog_10_method_64_code
def yX8_nextHome : MethodName := ⟨RX8, "nextHome", "(I)I"⟩
abbrev cX8_progress : ByteArray := prog_10_method_65_code
def yX8_progress : MethodName := ⟨RX8, "progress", "(I)D"⟩
def RL : String := "SnakeTradesLaw"
abbrev cL_law : ByteArray := code
def yL_law : MethodName := ⟨RL, "law", "([I)Z"⟩
abbrev vwCl : List vw_C := [(RX0, TX0, 4), (RX1, TX1, 2), (RX2, TX2, 7), (RX3, TX3, 10), (RX4, TX4, 2), (RX5, TX5, 3), (RX6, TX6, 4), (RX7, TX7, 7), (RX8, TX8, 14)]
end
section
/-! FLAT MEMORY: every cell from a base on, by its kind. Kinds 0 to 8: an object of that class of vwCl; 9 int[], 10 boolean[], 11 Race[], 12 Piece[], 13 Bite[], 14 Snake[] (with the length). Ints in I (address, place), references in P (addresses counted from the base). -/
abbrev fw_T : Type := Nat × (Nat → Nat × Nat)
abbrev fw_G : Type := Nat × va_G × (Nat → ClassId)
abbrev fw_I : Type := Nat → Nat → Int32
abbrev fw_P : Type := Nat → Nat → Option Nat
/-- a method: name, code, locals, answer, frames and words of room below it -/
abbrev fw_M : Type := MethodName × ByteArray × Nat × Option FieldType × Nat × Nat
def fw_rf (g : fw_G) : Option Nat → Value
  | none => .null
  | some a => .ref (g.1 + a)
theorem fw_rf_map (g : fw_G) (r : Option Nat) : va_rf (r.map fun b => g.1 + b) = fw_rf g r := by cases r <;> rfl
def fw_fs (g : fw_G) (I : fw_I) (P : fw_P) (a : Nat) : Nat → List Value
  | 0 => [.int (I a 0), .int (I a 1), .int (I a 2), .int (I a 3)]
  | 1 => [fw_rf g (P a 0), .int (I a 1)]
  | 2 => [fw_rf g (P a 0), .int (I a 1), .int (I a 2), .int (I a 3), .int (I a 4), .int (I a 5), .int (I a 6)]
  | 3 => [fw_rf g (P a 0), fw_rf g (P a 1), .int (I a 2), .int (I a 3), .int (I a 4), .int (I a 5), .int (I a 6), .int (I a 7), .int (I a 8), .int (I a 9)]
  | 4 => [fw_rf g (P a 0), .int (I a 1)]
  | 5 => [fw_rf g (P a 0), fw_rf g (P a 1), .int (I a 2)]
  | 6 => [.int (I a 0), .int (I a 1), .int (I a 2), .int (I a 3)]
  | 7 => [fw_rf g (P a 0), fw_rf g (P a 1), fw_rf g (P a 2), fw_rf g (P a 3), fw_rf g (P a 4), fw_rf g (P a 5), .int (I a 6)]
  | _ => [fw_rf g (P a 0), fw_rf g (P a 1), .int (I a 2), fw_rf g (P a 3), .int (I a 4), fw_rf g (P a 5), fw_rf g (P a 6), .int (I a 7), .int (I a 8), .int (I a 9), fw_rf g (P a 10), .int (I a 11), fw_rf g (P a 12), fw_rf g (P a 13)]
/-- which fields are ints -/
def fw_int : Nat → Nat → Bool
  | 0, k => decide (k < 4)
  | 1, k => decide (k = 1)
  | 2, k => decide (1 ≤ k ∧ k < 7)
  | 3, k => decide (2 ≤ k ∧ k < 10)
  | 4, k => decide (k = 1)
  | 5, k => decide (k = 2)
  | 6, k => decide (k < 4)
  | 7, k => decide (k = 6)
  | 8, k => decide (k = 2 ∨ k = 4 ∨ k = 7 ∨ k = 8 ∨ k = 9 ∨ k = 11)
  | _, _ => false
def fw_refs : Nat → Nat → Bool
  | 1, k => decide (k = 0)
  | 2, k => decide (k = 0)
  | 3, k => decide (k < 2)
  | 4, k => decide (k = 0)
  | 5, k => decide (k < 2)
  | 7, k => decide (k < 6)
  | 8, k => decide (k = 0 ∨ k = 1 ∨ k = 3 ∨ k = 5 ∨ k = 6 ∨ k = 10 ∨ k = 12 ∨ k = 13)
  | _, _ => false
def fw_ent (g : fw_G) (I : fw_I) (P : fw_P) (a : Nat) : Nat × Nat → va_E
  | (9, n) => .inl (g.2.2 9, n, .inl (I a))
  | (10, n) => .inl (g.2.2 10, n, .inl (I a))
  | (11, n) => .inl (g.2.2 11, n, .inr (.inr (.inr (.inr (fun j => (P a j).map fun b => g.1 + b)))))
  | (12, n) => .inl (g.2.2 12, n, .inr (.inr (.inr (.inr (fun j => (P a j).map fun b => g.1 + b)))))
  | (13, n) => .inl (g.2.2 13, n, .inr (.inr (.inr (.inr (fun j => (P a j).map fun b => g.1 + b)))))
  | (14, n) => .inl (g.2.2 14, n, .inr (.inr (.inr (.inr (fun j => (P a j).map fun b => g.1 + b)))))
  | (c, _) => .inr (c, fw_fs g I P a c)
theorem fw_ent_ob (g : fw_G) (I : fw_I) (P : fw_P) (a n : Nat) {c : Nat} (h : c < 9) : fw_ent g I P a (c, n) = .inr (c, fw_fs g I P a c) := by
  match c, h with
  | 0, _ => rfl
  | 1, _ => rfl
  | 2, _ => rfl
  | 3, _ => rfl
  | 4, _ => rfl
  | 5, _ => rfl
  | 6, _ => rfl
  | 7, _ => rfl
  | 8, _ => rfl
def up2 {α : Type} (I : Nat → Nat → α) (a k : Nat) (x : α) : Nat → Nat → α := fun b => if b = a then (fun j => if j = k then x else I a j) else I b
theorem up2_same {α : Type} (I : Nat → Nat → α) (a k : Nat) (x : α) : up2 I a k x a k = x := by simp [up2]
theorem up2_row {α : Type} (I : Nat → Nat → α) (a k : Nat) (x : α) : up2 I a k x a = fun j => if j = k then x else I a j := by simp [up2]
theorem up2_ne {α : Type} (I : Nat → Nat → α) {a b : Nat} (k : Nat) (x : α) (h : b ≠ a) : up2 I a k x b = I b := by simp [up2, h]
theorem up2_at {α : Type} (I : Nat → Nat → α) (a k : Nat) (x : α) (b j : Nat) : up2 I a k x b j = if b = a ∧ j = k then x else I b j := by
  unfold up2
  by_cases h : b = a
  · subst h; by_cases h2 : j = k <;> simp [h2]
  · simp [h]
theorem fw_seti (g : fw_G) (I : fw_I) (P : fw_P) (a : Nat) (x : Int32) : ∀ (c k : Nat), fw_int c k = true → (fw_fs g I P a c).set k (.int x) = fw_fs g (up2 I a k x) P a c := by
  intro c k h
  match c, h with
  | 0, h => match k, h with
    | 0, _ => simp [fw_fs, up2]
    | 1, _ => simp [fw_fs, up2]
    | 2, _ => simp [fw_fs, up2]
    | 3, _ => simp [fw_fs, up2]
    | k + 4, h => (simp [fw_int] at h <;> omega)
  | 1, h => match k, h with
    | 1, _ => simp [fw_fs, up2]
    | 0, h => (simp [fw_int] at h <;> omega)
    | k + 2, h => (simp [fw_int] at h <;> omega)
  | 2, h => match k, h with
    | 0, h => (simp [fw_int] at h <;> omega)
    | 1, _ => simp [fw_fs, up2]
    | 2, _ => simp [fw_fs, up2]
    | 3, _ => simp [fw_fs, up2]
    | 4, _ => simp [fw_fs, up2]
    | 5, _ => simp [fw_fs, up2]
    | 6, _ => simp [fw_fs, up2]
    | k + 7, h => (simp [fw_int] at h <;> omega)
  | 3, h => match k, h with
    | 0, h => (simp [fw_int] at h <;> omega)
    | 1, h => (simp [fw_int] at h <;> omega)
    | 2, _ => simp [fw_fs, up2]
    | 3, _ => simp [fw_fs, up2]
    | 4, _ => simp [fw_fs, up2]
    | 5, _ => simp [fw_fs, up2]
    | 6, _ => simp [fw_fs, up2]
    | 7, _ => simp [fw_fs, up2]
    | 8, _ => simp [fw_fs, up2]
    | 9, _ => simp [fw_fs, up2]
    | k + 10, h => (simp [fw_int] at h <;> omega)
  | 4, h => match k, h with
    | 1, _ => simp [fw_fs, up2]
    | 0, h => (simp [fw_int] at h <;> omega)
    | k + 2, h => (simp [fw_int] at h <;> omega)
  | 5, h => match k, h with
    | 2, _ => simp [fw_fs, up2]
    | 0, h => (simp [fw_int] at h <;> omega)
    | 1, h => (simp [fw_int] at h <;> omega)
    | k + 3, h => (simp [fw_int] at h <;> omega)
  | 6, h => match k, h with
    | 0, _ => simp [fw_fs, up2]
    | 1, _ => simp [fw_fs, up2]
    | 2, _ => simp [fw_fs, up2]
    | 3, _ => simp [fw_fs, up2]
    | k + 4, h => (simp [fw_int] at h <;> omega)
  | 7, h => match k, h with
    | 6, _ => simp [fw_fs, up2]
    | 0, h => (simp [fw_int] at h <;> omega)
    | 1, h => (simp [fw_int] at h <;> omega)
    | 2, h => (simp [fw_int] at h <;> omega)
    | 3, h => (simp [fw_int] at h <;> omega)
    | 4, h => (simp [fw_int] at h <;> omega)
    | 5, h => (simp [fw_int] at h <;> omega)
    | k + 7, h => (simp [fw_int] at h <;> omega)
  | 8, h => match k, h with
    | 2, _ => simp [fw_fs, up2]
    | 4, _ => simp [fw_fs, up2]
    | 7, _ => simp [fw_fs, up2]
    | 8, _ => simp [fw_fs, up2]
    | 9, _ => simp [fw_fs, up2]
    | 11, _ => simp [fw_fs, up2]
    | 0, h => (simp [fw_int] at h <;> omega)
    | 1, h => (simp [fw_int] at h <;> omega)
    | 3, h => (simp [fw_int] at h <;> omega)
    | 5, h => (simp [fw_int] at h <;> omega)
    | 6, h => (simp [fw_int] at h <;> omega)
    | 10, h => (simp [fw_int] at h <;> omega)
    | k + 12, h => (simp [fw_int] at h <;> omega)
  | c + 9, h => (simp [fw_int] at h <;> omega)
theorem fw_setr (g : fw_G) (I : fw_I) (P : fw_P) (a : Nat) (r : Option Nat) : ∀ (c k : Nat), fw_refs c k = true → (fw_fs g I P a c).set k (fw_rf g r) = fw_fs g I (up2 P a k r) a c := by
  intro c k h
  match c, h with
  | 0, h => (simp [fw_refs] at h <;> omega)
  | 1, h => match k, h with
    | 0, _ => simp [fw_fs, up2]
    | k + 1, h => (simp [fw_refs] at h <;> omega)
  | 2, h => match k, h with
    | 0, _ => simp [fw_fs, up2]
    | k + 1, h => (simp [fw_refs] at h <;> omega)
  | 3, h => match k, h with
    | 0, _ => simp [fw_fs, up2]
    | 1, _ => simp [fw_fs, up2]
    | k + 2, h => (simp [fw_refs] at h <;> omega)
  | 4, h => match k, h with
    | 0, _ => simp [fw_fs, up2]
    | k + 1, h => (simp [fw_refs] at h <;> omega)
  | 5, h => match k, h with
    | 0, _ => simp [fw_fs, up2]
    | 1, _ => simp [fw_fs, up2]
    | k + 2, h => (simp [fw_refs] at h <;> omega)
  | 6, h => (simp [fw_refs] at h <;> omega)
  | 7, h => match k, h with
    | 0, _ => simp [fw_fs, up2]
    | 1, _ => simp [fw_fs, up2]
    | 2, _ => simp [fw_fs, up2]
    | 3, _ => simp [fw_fs, up2]
    | 4, _ => simp [fw_fs, up2]
    | 5, _ => simp [fw_fs, up2]
    | k + 6, h => (simp [fw_refs] at h <;> omega)
  | 8, h => match k, h with
    | 0, _ => simp [fw_fs, up2]
    | 1, _ => simp [fw_fs, up2]
    | 3, _ => simp [fw_fs, up2]
    | 5, _ => simp [fw_fs, up2]
    | 6, _ => simp [fw_fs, up2]
    | 10, _ => simp [fw_fs, up2]
    | 12, _ => simp [fw_fs, up2]
    | 13, _ => simp [fw_fs, up2]
    | 2, h => (simp [fw_refs] at h <;> omega)
    | 4, h => (simp [fw_refs] at h <;> omega)
    | 7, h => (simp [fw_refs] at h <;> omega)
    | 8, h => (simp [fw_refs] at h <;> omega)
    | 9, h => (simp [fw_refs] at h <;> omega)
    | 11, h => (simp [fw_refs] at h <;> omega)
    | k + 14, h => (simp [fw_refs] at h <;> omega)
  | c + 9, h => (simp [fw_refs] at h <;> omega)
def fw_ws (g : fw_G) (T : fw_T) (I : fw_I) (P : fw_P) : va_W := (List.range T.1).map fun a => (g.1 + a, fw_ent g I P a (T.2 a))
theorem fw_ws_get (g : fw_G) (T : fw_T) (I : fw_I) (P : fw_P) {a : Nat} (h : a < T.1) : (fw_ws g T I P)[a]? = some (g.1 + a, fw_ent g I P a (T.2 a)) := by
  simp [fw_ws, h]
theorem fw_ws_len (g : fw_G) (T : fw_T) (I : fw_I) (P : fw_P) : (fw_ws g T I P).length = T.1 := by simp [fw_ws]
def fw_A (g : fw_G) : Nat → Prop := fun q => g.1 ≤ q
theorem fw_D (g : fw_G) (T : fw_T) (I : fw_I) (P : fw_P) : va_D (fw_A g) (fw_ws g T I P) := by
  have key : ∀ (k : Nat) (q : Nat × va_E), (fw_ws g T I P)[k]? = some q → q.1 = g.1 + k := by
    intro k q h
    have hk : k < T.1 := by
      have := (List.getElem?_eq_some_iff.mp h).1
      rwa [fw_ws_len] at this
    rw [fw_ws_get g T I P hk] at h
    cases h
    rfl
  refine ⟨fun i j p q hi hj h => ?_, fun k q h => ?_⟩
  · have := key i p hi
    have := key j q hj
    omega
  · show g.1 ≤ q.1
    rw [key k q h]
    omega
theorem fw_ws_set (g : fw_G) (T : fw_T) (I I' : fw_I) (P P' : fw_P) {a : Nat} {e : va_E} (h : a < T.1) (he : fw_ent g I' P' a (T.2 a) = e) (hI : ∀ b, b ≠ a → I' b = I b) (hP : ∀ b, b ≠ a → P' b = P b) : (fw_ws g T I P).set a (g.1 + a, e) = fw_ws g T I' P' := by
  apply List.ext_getElem?
  intro j
  by_cases hj : j < T.1
  · rw [fw_ws_get g T I' P' hj]
    by_cases hja : j = a
    · subst hja
      rw [List.getElem?_set_self (by rw [fw_ws_len]; exact hj), he]
    · rw [List.getElem?_set_ne (fun q => hja q.symm), fw_ws_get g T I P hj]
      have e1 := hI j hja
      have e2 := hP j hja
      have : fw_ent g I P j (T.2 j) = fw_ent g I' P' j (T.2 j) := by
        unfold fw_ent fw_fs
        rw [e1, e2]
      rw [this]
  · rw [List.getElem?_eq_none (by rw [List.length_set, fw_ws_len]; omega), List.getElem?_eq_none (by rw [fw_ws_len]; omega)]
def fw_tys (g : fw_G) : List (ClassId × FieldType) := [(g.2.2 9, .int), (g.2.2 10, .boolean), (g.2.2 11, .object RX3), (g.2.2 12, .object RX2), (g.2.2 13, .object RX0), (g.2.2 14, .object RX6)]
def fw_nests : List (String × Nat × MethodName × String) := [(RX2, 17, yX0_init, RX7), (RX3, 24, yX6_init, RX7), (RX3, 100, yX7_landing, RX7), (RX5, 30, yX7_landing, RX7)]
def fw_K (g : fw_G) (U : State) : Prop := va_K g.2.1 vwCl (fw_tys g) U ∧ ∀ q ∈ fw_nests, va_Nw (.methodLinkNest q.1 q.2.1 q.2.2.1 q.2.2.2) U
theorem fw_K.warm {g : fw_G} {s U : State} (hW : s.WarmedH U.vm) (h : fw_K g s) : fw_K g U := ⟨va_K.moved hW.alike h.1, fun q hq => va_Nw.warmM hW (h.2 q hq)⟩
theorem fw_K.blind {g : fw_G} {U : State} (f : JFrame) (mk : MethodId) (a : Array Value) (h : fw_K g U) : fw_K g (U.calling f mk a) := ⟨va_K.moved (u := U) (U := U.calling f mk a) (Vm.Alike.refl U.vm) h.1, fun q hq => va_Nw.same (u := U) rfl rfl (h.2 q hq)⟩
def fw_U : List Cond := lw_tbl.filter goodWord
def fw_wsk (k : fw_M) : List Cond := .code k.1 k.2.1 k.2.2.1 k.2.2.2.1 :: fw_U
def fw_rm (k : fw_M) (mc ms : Nat) : Room := { frames := k.2.2.2.2.1, cells := mc, slots := ms, locals := k.2.2.2.2.2 }
theorem fw_U_good : GoodIn fw_U fw_U := fun w h => ⟨h, good_of_word (List.mem_filter.mp h).2⟩
theorem fw_wsk_good {k : fw_M} (h : Cond.code k.1 k.2.1 k.2.2.1 k.2.2.2.1 ∈ fw_U) : GoodIn fw_U (fw_wsk k) := fun w hw => by
  rcases List.mem_cons.mp hw with rfl | hw
  · exact fw_U_good _ h
  · exact fw_U_good _ hw
def fw_R (g : fw_G) (T : fw_T) (I : fw_I) (P : fw_P) (H : Heap) : Prop := va_P g.2.1 vwCl (fw_ws g T I P) H
def fw_post (g : fw_G) (T' : fw_T) (Q : Option Value → fw_I → fw_P → Prop) : Array Value → State → Outcome → State → Prop := fun _ st oc t =>
  (∃ (v : Option Value) (I : fw_I) (P : fw_P), oc = .returned v ∧ Q v I P ∧ fw_R g T' I P t.heap) ∧ va_F (fw_A g) st t
def fw_Pc (g : fw_G) (T : fw_T) (I : fw_I) (P : fw_P) (args : List Value) : Array Value → State → Prop := fun v U => v = args.toArray ∧ (U.heap.size = g.1 + T.1 ∧ fw_R g T I P U.heap) ∧ fw_K g U
theorem fw_blind (g : fw_G) (T : fw_T) (I : fw_I) (P : fw_P) (args : List Value) : FrameBlind (fw_Pc g T I P args) := fun a U f mk h => ⟨h.1, h.2.1, h.2.2.blind f mk a⟩
/-- a method's contract over flat memory -/
def Sp (l : Launch) (g : fw_G) (k : fw_M) (T : fw_T) (args : List Value) (I : fw_I) (P : fw_P) (T' : fw_T) (mc ms : Nat) (Q : Option Value → fw_I → fw_P → Prop) : Prop :=
  Met l k.1 (fw_wsk k) (fw_rm k mc ms) (fw_Pc g T I P args) (fw_post g T' Q) mc ms (fw_A g)
def fw_C (g : fw_G) (k : fw_M) (p : Program) (s : State) (m : MethodId) (args : Array Value) (meth : Method) (c : Code) : Prop :=
  CallFix p m c k.2.1 k.2.2.1 s args fw_U k.1.cls ∧ meth.sig.returnType = k.2.2.2.1 ∧ meth.locks = false ∧ meth.name = k.1.name ∧ g.1 ≤ s.heap.size
def fw_L (ls : Array Slot) (n : Nat) (L : List (Option Value)) : Prop := ls.size = n ∧ lv_wf ls ∧ ∀ (j : Nat) (v : Value), L[j]? = some (some v) → v.category = 1 ∧ ls[j]? = some (.val v)
theorem fw_L.has {ls : Array Slot} {n : Nat} {L : List (Option Value)} (h : fw_L ls n L) : lv_has ls n [] := ⟨h.1, h.2.1, fun q hq => absurd hq List.not_mem_nil⟩
theorem fw_L.set {ls ls' : Array Slot} {n i : Nat} {v : Value} {L : List (Option Value)} (h : fw_L ls n L) (hi : i < n) (hc : v.category = 1) (e : storeLocals ls i v = some ls') : fw_L ls' n (L.set i (some v)) := by
  have one : ∀ (j : Nat) (w : Value), w.category = 1 → ls[j]? = some (.val w) → lv_has ls' n ((i, v) :: [(j, w)].filter (fun q => !(q.1 == i) && !(q.1 + 1 == i && q.2.category == 2))) := by
    intro j w hw hj
    obtain ⟨l2, e2, h2⟩ := lv_store1 (v := v) (l := [(j, w)]) (ls := ls) (nL := n) ⟨h.1, h.2.1, fun q hq => by rw [List.mem_singleton.mp hq]; exact hj⟩ hi hc
    rw [e] at e2
    cases e2
    exact h2
  obtain ⟨l2, e2, h2⟩ := lv_store1 (v := v) h.has hi hc
  rw [e] at e2
  cases e2
  refine ⟨h2.1, h2.2.1, fun j w hj => ?_⟩
  by_cases hji : j = i
  · subst hji
    have hlt : j < L.length := by
      have := (List.getElem?_eq_some_iff.mp hj).1
      rwa [List.length_set] at this
    rw [List.getElem?_set_self hlt] at hj
    cases hj
    exact ⟨hc, h2.2.2 (j, v) List.mem_cons_self⟩
  · rw [List.getElem?_set_ne (fun q => hji q.symm)] at hj
    obtain ⟨a, b⟩ := h.2.2 j w hj
    refine ⟨a, (one j w a b).2.2 (j, w) (List.mem_cons_of_mem _ (List.mem_filter.mpr ⟨List.mem_cons_self, ?_⟩))⟩
    simp [hji, a]
/-- the walk: from this point of method k, over any heap that holds the memory, the method comes to its end as Q says -/
def V (l : Launch) (g : fw_G) (k : fw_M) (T' : fw_T) (mc ms : Nat) (Q : Option Value → fw_I → fw_P → Prop) (T : fw_T) (I : fw_I) (P : fw_P) (u w : Nat) (pc : Nat) (L : List (Option Value)) (st : List Value) : Prop :=
  ∀ (p : Program) (e : Env) (s : State) (m : MethodId) (args : Array Value) (below : List Frame) (meth : Method) (c : Code) (H : Heap) (locs : List Loc) (ls : Array Slot),
    (fw_C g k p s m args meth c ∧ s.heap.size + u = g.1 + T.1) → fw_K g s → fw_R g T I P H → va_S (fw_A g) s.heap H locs → fw_L ls k.2.2.1 L →
      W p l e (fw_rm k mc ms) s m args below meth c H locs u w (MQ below (fw_post g T' Q) args s mc ms (fw_A g)) (F0 m pc ls st)
theorem Sp.of_V {l : Launch} {g : fw_G} {k : fw_M} {T T' : fw_T} {as : List Value} {I : fw_I} {P : fw_P} {mc ms : Nat} {Q : Option Value → fw_I → fw_P → Prop} {L : List (Option Value)} (hy : plainName k.1.cls = true) (hcat : ∀ v ∈ as, v.category = 1) (hn : as.length ≤ k.2.2.1) (hL : as.map some ++ List.replicate (k.2.2.1 - as.length) none = L)
    (h : V l g k T' mc ms Q T I P 0 0 0 L []) : Sp l g k T as I P T' mc ms Q := by
  refine Met.ofW (cc := k.2.1) (maxL := k.2.2.1) (ret := k.2.2.2.1) hy rfl ?_
  intro p e s m args below meth c s₁ B hml hv
  obtain ⟨rfl, ⟨hz, hR⟩, hK⟩ := hv
  have hts := atoms_spec (ws := fw_wsk k) B.pre
  have hsl : lg_sl as = as.map Slot.val := by
    clear hL hn h hz hR hK hts B
    induction as with
    | nil => rfl
    | cons v t ih =>
      have h1 : v.category = 1 := hcat v List.mem_cons_self
      have h2 := ih (fun w hw => hcat w (List.mem_cons_of_mem _ hw))
      simp only [lg_sl, List.flatMap_cons, h1, List.map_cons] at h2 ⊢
      rw [h2]
      rfl
  have hle : (lg_sl as).length ≤ k.2.2.1 := by rw [hsl, List.length_map]; exact hn
  have hl := lv_entry as (n := k.2.2.1) hle
  rw [lg_entry_eq]
  refine h p e s m _ below meth c s.heap [] _ ⟨⟨⟨B.exec, B.bytes, hml, findClass_of_methodNamed B.named, fun w hw => hts w (List.mem_cons_of_mem _ hw)⟩, B.returns, B.notSynchronized, (name_of_methodNamed B.named B.method).1, by omega⟩, hz⟩ hK hR va_S.rf ⟨hl.1, hl.2.1, fun j v hj => ?_⟩
  rw [← hL] at hj
  have hjl : j < as.length := by
    rcases Nat.lt_or_ge j as.length with q | q
    · exact q
    · rw [List.getElem?_append_right (by simpa using q)] at hj
      have := List.eq_of_mem_replicate (List.mem_of_getElem? hj)
      cases this
  rw [List.getElem?_append_left (by simpa using hjl), List.getElem?_map] at hj
  cases ha : as[j]? with
  | none => rw [ha] at hj; cases hj
  | some v' =>
    rw [ha] at hj
    cases hj
    refine ⟨hcat _ (List.mem_of_getElem? ha), ?_⟩
    rw [hsl, List.getElem?_toArray, List.getElem?_append_left (by simpa using hjl), List.getElem?_map, ha]
    rfl
end
section
/-! ROWS of the walk over flat memory: one an instruction -/
section FWR
variable {l : Launch} {g : fw_G} {k : fw_M} {T T' : fw_T} {mc ms : Nat} {Q : Option Value → fw_I → fw_P → Prop} {I : fw_I} {P : fw_P} {u w pc q : Nat} {L L' : List (Option Value)} {st : List Value}

theorem V_iconst {n : Int} {v : Int32} (hv : Int32.ofInt n = v) (hd : decode k.2.1 pc = .ok (.iconst n, 1)) (hq : pc + 1 = q) (kk : V l g k T' mc ms Q T I P u w q L (.int v :: st)) : V l g k T' mc ms Q T I P u w pc L (st) := by
  subst hq
  intro p e s m args below meth c H locs ls hC hK hR hS hL
  exact lv_iconst hC.1.1.1 hC.1.1.2.1 hd hv (kk p e s m args below meth c H locs ls hC hK hR hS hL)
theorem V_bipush {n : Int} {v : Int32} (hv : (Int8.ofInt n).toInt32 = v) (hd : decode k.2.1 pc = .ok (.bipush n, 2)) (hq : pc + 2 = q) (kk : V l g k T' mc ms Q T I P u w q L (.int v :: st)) : V l g k T' mc ms Q T I P u w pc L (st) := by
  subst hq
  intro p e s m args below meth c H locs ls hC hK hR hS hL
  exact lv_bipush hC.1.1.1 hC.1.1.2.1 hd hv (kk p e s m args below meth c H locs ls hC hK hR hS hL)
theorem V_sipush {n : Int} {v : Int32} (hv : (Int16.ofInt n).toInt32 = v) (hd : decode k.2.1 pc = .ok (.sipush n, 3)) (hq : pc + 3 = q) (kk : V l g k T' mc ms Q T I P u w q L (.int v :: st)) : V l g k T' mc ms Q T I P u w pc L (st) := by
  subst hq
  intro p e s m args below meth c H locs ls hC hK hR hS hL
  exact lv_sipush hC.1.1.1 hC.1.1.2.1 hd hv (kk p e s m args below meth c H locs ls hC hK hR hS hL)
theorem V_iadd {x y : Int32} (hd : decode k.2.1 pc = .ok (.iadd, 1)) (hq : pc + 1 = q) (kk : V l g k T' mc ms Q T I P u w q L (.int (x + y) :: st)) : V l g k T' mc ms Q T I P u w pc L (.int y :: .int x :: st) := by
  subst hq
  intro p e s m args below meth c H locs ls hC hK hR hS hL
  exact lv_iadd hC.1.1.1 hC.1.1.2.1 hd (kk p e s m args below meth c H locs ls hC hK hR hS hL)
theorem V_isub {x y : Int32} (hd : decode k.2.1 pc = .ok (.isub, 1)) (hq : pc + 1 = q) (kk : V l g k T' mc ms Q T I P u w q L (.int (x - y) :: st)) : V l g k T' mc ms Q T I P u w pc L (.int y :: .int x :: st) := by
  subst hq
  intro p e s m args below meth c H locs ls hC hK hR hS hL
  exact lv_isub hC.1.1.1 hC.1.1.2.1 hd (kk p e s m args below meth c H locs ls hC hK hR hS hL)
theorem V_imul {x y : Int32} (hd : decode k.2.1 pc = .ok (.imul, 1)) (hq : pc + 1 = q) (kk : V l g k T' mc ms Q T I P u w q L (.int (x * y) :: st)) : V l g k T' mc ms Q T I P u w pc L (.int y :: .int x :: st) := by
  subst hq
  intro p e s m args below meth c H locs ls hC hK hR hS hL
  exact lv_imul hC.1.1.1 hC.1.1.2.1 hd (kk p e s m args below meth c H locs ls hC hK hR hS hL)
theorem V_iand {x y : Int32} (hd : decode k.2.1 pc = .ok (.iand, 1)) (hq : pc + 1 = q) (kk : V l g k T' mc ms Q T I P u w q L (.int (x &&& y) :: st)) : V l g k T' mc ms Q T I P u w pc L (.int y :: .int x :: st) := by
  subst hq
  intro p e s m args below meth c H locs ls hC hK hR hS hL
  exact lv_iand hC.1.1.1 hC.1.1.2.1 hd (kk p e s m args below meth c H locs ls hC hK hR hS hL)
theorem V_ior {x y : Int32} (hd : decode k.2.1 pc = .ok (.ior, 1)) (hq : pc + 1 = q) (kk : V l g k T' mc ms Q T I P u w q L (.int (x ||| y) :: st)) : V l g k T' mc ms Q T I P u w pc L (.int y :: .int x :: st) := by
  subst hq
  intro p e s m args below meth c H locs ls hC hK hR hS hL
  exact lv_ior hC.1.1.1 hC.1.1.2.1 hd (kk p e s m args below meth c H locs ls hC hK hR hS hL)
theorem V_ixor {x y : Int32} (hd : decode k.2.1 pc = .ok (.ixor, 1)) (hq : pc + 1 = q) (kk : V l g k T' mc ms Q T I P u w q L (.int (x ^^^ y) :: st)) : V l g k T' mc ms Q T I P u w pc L (.int y :: .int x :: st) := by
  subst hq
  intro p e s m args below meth c H locs ls hC hK hR hS hL
  exact lv_ixor hC.1.1.1 hC.1.1.2.1 hd (kk p e s m args below meth c H locs ls hC hK hR hS hL)
theorem V_ishl {x y : Int32} (hd : decode k.2.1 pc = .ok (.ishl, 1)) (hq : pc + 1 = q) (kk : V l g k T' mc ms Q T I P u w q L (.int (x <<< (y &&& 31)) :: st)) : V l g k T' mc ms Q T I P u w pc L (.int y :: .int x :: st) := by
  subst hq
  intro p e s m args below meth c H locs ls hC hK hR hS hL
  exact lv_ishl hC.1.1.1 hC.1.1.2.1 hd (kk p e s m args below meth c H locs ls hC hK hR hS hL)
theorem V_ishr {x y : Int32} (hd : decode k.2.1 pc = .ok (.ishr, 1)) (hq : pc + 1 = q) (kk : V l g k T' mc ms Q T I P u w q L (.int (x >>> (y &&& 31)) :: st)) : V l g k T' mc ms Q T I P u w pc L (.int y :: .int x :: st) := by
  subst hq
  intro p e s m args below meth c H locs ls hC hK hR hS hL
  exact lv_ishr hC.1.1.1 hC.1.1.2.1 hd (kk p e s m args below meth c H locs ls hC hK hR hS hL)
theorem V_ineg {x : Int32} (hd : decode k.2.1 pc = .ok (.ineg, 1)) (hq : pc + 1 = q) (kk : V l g k T' mc ms Q T I P u w q L (.int (-x) :: st)) : V l g k T' mc ms Q T I P u w pc L (.int x :: st) := by
  subst hq
  intro p e s m args below meth c H locs ls hC hK hR hS hL
  exact lv_ineg hC.1.1.1 hC.1.1.2.1 hd (kk p e s m args below meth c H locs ls hC hK hR hS hL)
theorem V_idiv {x y : Int32} (hne : ¬ y = 0) (hd : decode k.2.1 pc = .ok (.idiv, 1)) (hq : pc + 1 = q) (kk : V l g k T' mc ms Q T I P u w q L (.int (x / y) :: st)) : V l g k T' mc ms Q T I P u w pc L (.int y :: .int x :: st) := by
  subst hq
  intro p e s m args below meth c H locs ls hC hK hR hS hL
  exact lv_idiv hC.1.1.1 hC.1.1.2.1 hd hne (kk p e s m args below meth c H locs ls hC hK hR hS hL)
theorem V_irem {x y : Int32} (hne : ¬ y = 0) (hd : decode k.2.1 pc = .ok (.irem, 1)) (hq : pc + 1 = q) (kk : V l g k T' mc ms Q T I P u w q L (.int (x - x / y * y) :: st)) : V l g k T' mc ms Q T I P u w pc L (.int y :: .int x :: st) := by
  subst hq
  intro p e s m args below meth c H locs ls hC hK hR hS hL
  exact lv_irem hC.1.1.1 hC.1.1.2.1 hd hne (kk p e s m args below meth c H locs ls hC hK hR hS hL)
theorem V_dup {v : Value} (hc : v.category = 1) (hd : decode k.2.1 pc = .ok (.dup, 1)) (hq : pc + 1 = q) (kk : V l g k T' mc ms Q T I P u w q L (v :: v :: st)) : V l g k T' mc ms Q T I P u w pc L (v :: st) := by
  subst hq
  intro p e s m args below meth c H locs ls hC hK hR hS hL
  exact lv_dup hC.1.1.1 hC.1.1.2.1 hd hc (kk p e s m args below meth c H locs ls hC hK hR hS hL)
theorem V_pop {v : Value} (hc : v.category = 1) (hd : decode k.2.1 pc = .ok (.pop, 1)) (hq : pc + 1 = q) (kk : V l g k T' mc ms Q T I P u w q L (st)) : V l g k T' mc ms Q T I P u w pc L (v :: st) := by
  subst hq
  intro p e s m args below meth c H locs ls hC hK hR hS hL
  exact lv_pop hC.1.1.1 hC.1.1.2.1 hd hc (kk p e s m args below meth c H locs ls hC hK hR hS hL)
theorem V_dup2 {v v2 : Value} (hc : v.category = 1) (hc2 : v2.category = 1) (hd : decode k.2.1 pc = .ok (.dup2, 1)) (hq : pc + 1 = q) (kk : V l g k T' mc ms Q T I P u w q L (v :: v2 :: v :: v2 :: st)) : V l g k T' mc ms Q T I P u w pc L (v :: v2 :: st) := by
  subst hq
  intro p e s m args below meth c H locs ls hC hK hR hS hL
  exact lv_dup2_11 hC.1.1.1 hC.1.1.2.1 hd hc hc2 (kk p e s m args below meth c H locs ls hC hK hR hS hL)
theorem V_dup_x1 {v v2 : Value} (hc : v.category = 1) (hc2 : v2.category = 1) (hd : decode k.2.1 pc = .ok (.dup_x1, 1)) (hq : pc + 1 = q) (kk : V l g k T' mc ms Q T I P u w q L (v :: v2 :: v :: st)) : V l g k T' mc ms Q T I P u w pc L (v :: v2 :: st) := by
  subst hq
  intro p e s m args below meth c H locs ls hC hK hR hS hL
  exact lv_dup_x1 hC.1.1.1 hC.1.1.2.1 hd hc hc2 (kk p e s m args below meth c H locs ls hC hK hR hS hL)
theorem V_null  (hd : decode k.2.1 pc = .ok (.aconst_null, 1)) (hq : pc + 1 = q) (kk : V l g k T' mc ms Q T I P u w q L (fw_rf g none :: st)) : V l g k T' mc ms Q T I P u w pc L (st) := by
  subst hq
  intro p e s m args below meth c H locs ls hC hK hR hS hL
  exact lv_null hC.1.1.1 hC.1.1.2.1 hd (kk p e s m args below meth c H locs ls hC hK hR hS hL)
theorem V_ldc {i : Nat} {v : Int32} (hw : Cond.constant k.1.cls i v ∈ fw_U) (hd : decode k.2.1 pc = .ok (.ldc i, 2)) (hq : pc + 2 = q) (kk : V l g k T' mc ms Q T I P u w q L (.int v :: st)) : V l g k T' mc ms Q T I P u w pc L (st) := by
  subst hq
  intro p e s m args below meth c H locs ls hC hK hR hS hL
  exact lv_ldc hC.1.1.1 hC.1.1.2.1 hC.1.1.2.2.2.1 (hC.1.1.2.2.2.2 _ hw) hd (kk p e s m args below meth c H locs ls hC hK hR hS hL)
theorem V_iload_n {n : Fin 4} {i : Nat} {x : Int32} (hi : (n : Nat) = i) (hl : L[i]? = some (some (.int x))) (hd : decode k.2.1 pc = .ok (.iload_n n, 1)) (hq : pc + 1 = q) (kk : V l g k T' mc ms Q T I P u w q L (.int x :: st)) : V l g k T' mc ms Q T I P u w pc L (st) := by
  subst hq
  intro p e s m args below meth c H locs ls hC hK hR hS hL
  exact lv_iload_n hC.1.1.1 hC.1.1.2.1 hd hi (hL.2.2 _ _ hl).2 (kk p e s m args below meth c H locs ls hC hK hR hS hL)
theorem V_iload {i : Nat} {x : Int32} (hl : L[i]? = some (some (.int x))) (hd : decode k.2.1 pc = .ok (.iload i, 2)) (hq : pc + 2 = q) (kk : V l g k T' mc ms Q T I P u w q L (.int x :: st)) : V l g k T' mc ms Q T I P u w pc L (st) := by
  subst hq
  intro p e s m args below meth c H locs ls hC hK hR hS hL
  exact lv_iload hC.1.1.1 hC.1.1.2.1 hd (hL.2.2 _ _ hl).2 (kk p e s m args below meth c H locs ls hC hK hR hS hL)
theorem V_aload_n {n : Fin 4} {i a : Nat} (hi : (n : Nat) = i) (hl : L[i]? = some (some (.ref a))) (hd : decode k.2.1 pc = .ok (.aload_n n, 1)) (hq : pc + 1 = q) (kk : V l g k T' mc ms Q T I P u w q L (.ref a :: st)) : V l g k T' mc ms Q T I P u w pc L (st) := by
  subst hq
  intro p e s m args below meth c H locs ls hC hK hR hS hL
  exact lv_aload_n hC.1.1.1 hC.1.1.2.1 hd hi (hL.2.2 _ _ hl).2 (kk p e s m args below meth c H locs ls hC hK hR hS hL)
theorem V_aload {i a : Nat} (hl : L[i]? = some (some (.ref a))) (hd : decode k.2.1 pc = .ok (.aload i, 2)) (hq : pc + 2 = q) (kk : V l g k T' mc ms Q T I P u w q L (.ref a :: st)) : V l g k T' mc ms Q T I P u w pc L (st) := by
  subst hq
  intro p e s m args below meth c H locs ls hC hK hR hS hL
  exact lv_aload hC.1.1.1 hC.1.1.2.1 hd (hL.2.2 _ _ hl).2 (kk p e s m args below meth c H locs ls hC hK hR hS hL)
theorem V_aload_nr {n : Fin 4} {i : Nat} {r : Option Nat} (hi : (n : Nat) = i) (hl : L[i]? = some (some (fw_rf g r))) (hd : decode k.2.1 pc = .ok (.aload_n n, 1)) (hq : pc + 1 = q) (kk : V l g k T' mc ms Q T I P u w q L (fw_rf g r :: st)) : V l g k T' mc ms Q T I P u w pc L (st) := by
  subst hq
  intro p e s m args below meth c H locs ls hC hK hR hS hL
  cases r with
  | none => exact lv_aload_nN hC.1.1.1 hC.1.1.2.1 hd hi (hL.2.2 _ _ hl).2 (kk p e s m args below meth c H locs ls hC hK hR hS hL)
  | some a => exact lv_aload_n hC.1.1.1 hC.1.1.2.1 hd hi (hL.2.2 _ _ hl).2 (kk p e s m args below meth c H locs ls hC hK hR hS hL)
theorem V_aload_r {i : Nat} {r : Option Nat} (hl : L[i]? = some (some (fw_rf g r))) (hd : decode k.2.1 pc = .ok (.aload i, 2)) (hq : pc + 2 = q) (kk : V l g k T' mc ms Q T I P u w q L (fw_rf g r :: st)) : V l g k T' mc ms Q T I P u w pc L (st) := by
  subst hq
  intro p e s m args below meth c H locs ls hC hK hR hS hL
  cases r with
  | none => exact lv_aloadN hC.1.1.1 hC.1.1.2.1 hd (hL.2.2 _ _ hl).2 (kk p e s m args below meth c H locs ls hC hK hR hS hL)
  | some a => exact lv_aload hC.1.1.1 hC.1.1.2.1 hd (hL.2.2 _ _ hl).2 (kk p e s m args below meth c H locs ls hC hK hR hS hL)
theorem V_istore_n {n : Fin 4} {i : Nat} {x : Int32} (hi : (n : Nat) = i) (hn : i < k.2.2.1) (hL' : L.set i (some (.int x)) = L') (hd : decode k.2.1 pc = .ok (.istore_n n, 1)) (hq : pc + 1 = q) (kk : V l g k T' mc ms Q T I P u w q L' st) : V l g k T' mc ms Q T I P u w pc L ((.int x) :: st) := by
  subst hq
  subst hL'
  subst hi
  intro p e s m args below meth c H locs ls hC hK hR hS hL
  obtain ⟨ls', e', h'⟩ := lv_store1 (v := (.int x)) hL.has hn rfl
  have kk := kk p e s m args below meth c H locs ls' hC hK hR hS (hL.set hn rfl e')
  intro T0 hT X
  obtain ⟨t, a1, b1⟩ := kk T0 hT X
  refine ⟨t, ?_, b1⟩
  jvm_step X.here [X.here.top, ↓top_set X.here.top, hC.1.1.1, hC.1.1.2.1, hd, e', Value.isRef]
  exact a1
theorem V_istore {i : Nat} {x : Int32} (hn : i < k.2.2.1) (hL' : L.set i (some (.int x)) = L') (hd : decode k.2.1 pc = .ok (.istore i, 2)) (hq : pc + 2 = q) (kk : V l g k T' mc ms Q T I P u w q L' st) : V l g k T' mc ms Q T I P u w pc L ((.int x) :: st) := by
  subst hq
  subst hL'
  intro p e s m args below meth c H locs ls hC hK hR hS hL
  obtain ⟨ls', e', h'⟩ := lv_store1 (v := (.int x)) hL.has hn rfl
  have kk := kk p e s m args below meth c H locs ls' hC hK hR hS (hL.set hn rfl e')
  intro T0 hT X
  obtain ⟨t, a1, b1⟩ := kk T0 hT X
  refine ⟨t, ?_, b1⟩
  jvm_step X.here [X.here.top, ↓top_set X.here.top, hC.1.1.1, hC.1.1.2.1, hd, e', Value.isRef]
  exact a1
theorem V_astore_n {n : Fin 4} {i a : Nat} (hi : (n : Nat) = i) (hn : i < k.2.2.1) (hL' : L.set i (some (.ref a)) = L') (hd : decode k.2.1 pc = .ok (.astore_n n, 1)) (hq : pc + 1 = q) (kk : V l g k T' mc ms Q T I P u w q L' st) : V l g k T' mc ms Q T I P u w pc L ((.ref a) :: st) := by
  subst hq
  subst hL'
  subst hi
  intro p e s m args below meth c H locs ls hC hK hR hS hL
  obtain ⟨ls', e', h'⟩ := lv_store1 (v := (.ref a)) hL.has hn rfl
  have kk := kk p e s m args below meth c H locs ls' hC hK hR hS (hL.set hn rfl e')
  intro T0 hT X
  obtain ⟨t, a1, b1⟩ := kk T0 hT X
  refine ⟨t, ?_, b1⟩
  jvm_step X.here [X.here.top, ↓top_set X.here.top, hC.1.1.1, hC.1.1.2.1, hd, e', Value.isRef]
  exact a1
theorem V_astore {i a : Nat} (hn : i < k.2.2.1) (hL' : L.set i (some (.ref a)) = L') (hd : decode k.2.1 pc = .ok (.astore i, 2)) (hq : pc + 2 = q) (kk : V l g k T' mc ms Q T I P u w q L' st) : V l g k T' mc ms Q T I P u w pc L ((.ref a) :: st) := by
  subst hq
  subst hL'
  intro p e s m args below meth c H locs ls hC hK hR hS hL
  obtain ⟨ls', e', h'⟩ := lv_store1 (v := (.ref a)) hL.has hn rfl
  have kk := kk p e s m args below meth c H locs ls' hC hK hR hS (hL.set hn rfl e')
  intro T0 hT X
  obtain ⟨t, a1, b1⟩ := kk T0 hT X
  refine ⟨t, ?_, b1⟩
  jvm_step X.here [X.here.top, ↓top_set X.here.top, hC.1.1.1, hC.1.1.2.1, hd, e', Value.isRef]
  exact a1
theorem V_astore_nN {n : Fin 4} {i : Nat} (hi : (n : Nat) = i) (hn : i < k.2.2.1) (hL' : L.set i (some (.null)) = L') (hd : decode k.2.1 pc = .ok (.astore_n n, 1)) (hq : pc + 1 = q) (kk : V l g k T' mc ms Q T I P u w q L' st) : V l g k T' mc ms Q T I P u w pc L ((.null) :: st) := by
  subst hq
  subst hL'
  subst hi
  intro p e s m args below meth c H locs ls hC hK hR hS hL
  obtain ⟨ls', e', h'⟩ := lv_store1 (v := (.null)) hL.has hn rfl
  have kk := kk p e s m args below meth c H locs ls' hC hK hR hS (hL.set hn rfl e')
  intro T0 hT X
  obtain ⟨t, a1, b1⟩ := kk T0 hT X
  refine ⟨t, ?_, b1⟩
  jvm_step X.here [X.here.top, ↓top_set X.here.top, hC.1.1.1, hC.1.1.2.1, hd, e', Value.isRef]
  exact a1
theorem V_astoreN {i : Nat} (hn : i < k.2.2.1) (hL' : L.set i (some (.null)) = L') (hd : decode k.2.1 pc = .ok (.astore i, 2)) (hq : pc + 2 = q) (kk : V l g k T' mc ms Q T I P u w q L' st) : V l g k T' mc ms Q T I P u w pc L ((.null) :: st) := by
  subst hq
  subst hL'
  intro p e s m args below meth c H locs ls hC hK hR hS hL
  obtain ⟨ls', e', h'⟩ := lv_store1 (v := (.null)) hL.has hn rfl
  have kk := kk p e s m args below meth c H locs ls' hC hK hR hS (hL.set hn rfl e')
  intro T0 hT X
  obtain ⟨t, a1, b1⟩ := kk T0 hT X
  refine ⟨t, ?_, b1⟩
  jvm_step X.here [X.here.top, ↓top_set X.here.top, hC.1.1.1, hC.1.1.2.1, hd, e', Value.isRef]
  exact a1
theorem V_astore_nr {n : Fin 4} {i : Nat} {r : Option Nat} (hi : (n : Nat) = i) (hn : i < k.2.2.1) (hL' : L.set i (some (fw_rf g r)) = L') (hd : decode k.2.1 pc = .ok (.astore_n n, 1)) (hq : pc + 1 = q) (kk : V l g k T' mc ms Q T I P u w q L' st) : V l g k T' mc ms Q T I P u w pc L (fw_rf g r :: st) := by
  cases r with
  | none => exact V_astore_nN hi hn hL' hd hq kk
  | some a => exact V_astore_n hi hn hL' hd hq kk
theorem V_astore_r {i : Nat} {r : Option Nat} (hn : i < k.2.2.1) (hL' : L.set i (some (fw_rf g r)) = L') (hd : decode k.2.1 pc = .ok (.astore i, 2)) (hq : pc + 2 = q) (kk : V l g k T' mc ms Q T I P u w q L' st) : V l g k T' mc ms Q T I P u w pc L (fw_rf g r :: st) := by
  cases r with
  | none => exact V_astoreN hn hL' hd hq kk
  | some a => exact V_astore hn hL' hd hq kk
theorem V_iinc {i : Nat} {n : Int} {x v : Int32} (hl : L[i]? = some (some (.int x))) (hv : x + Int32.ofInt n = v) (hn : i < k.2.2.1) (hL' : L.set i (some (.int v)) = L') (hd : decode k.2.1 pc = .ok (.iinc i n, 3)) (hq : pc + 3 = q) (kk : V l g k T' mc ms Q T I P u w q L' st) : V l g k T' mc ms Q T I P u w pc L st := by
  subst hq
  subst hL'
  subst hv
  intro p e s m args below meth c H locs ls hC hK hR hS hL
  obtain ⟨ls', e', h'⟩ := lv_store1 (v := .int (x + Int32.ofInt n)) hL.has hn rfl
  have hg := (hL.2.2 _ _ hl).2
  have kk := kk p e s m args below meth c H locs ls' hC hK hR hS (hL.set hn rfl e')
  intro T0 hT X
  obtain ⟨t, a1, b1⟩ := kk T0 hT X
  refine ⟨t, ?_, b1⟩
  jvm_step X.here [X.here.top, ↓top_set X.here.top, hC.1.1.1, hC.1.1.2.1, hd, hg, e']
  exact a1
theorem V_icmp_eq {x y : Int32} {off : Int} {tgt : Nat} (hd : decode k.2.1 pc = .ok (.if_icmp .eq off, 3)) (ht : (pc : Int) + off = (tgt : Int)) (hq : pc + 3 = q) (kt : x = y → V l g k T' mc ms Q T I P u w tgt L st) (kf : ¬ x = y → V l g k T' mc ms Q T I P u w q L st) : V l g k T' mc ms Q T I P u w pc L (.int y :: .int x :: st) := by
  subst hq
  intro p e s m args below meth c H locs ls hC hK hR hS hL
  exact lv_icmp_eq hC.1.1.1 hC.1.1.2.1 hd ht (fun h => kt h p e s m args below meth c H locs ls hC hK hR hS hL) (fun h => kf h p e s m args below meth c H locs ls hC hK hR hS hL)
theorem V_if_eq {x : Int32} {off : Int} {tgt : Nat} (hd : decode k.2.1 pc = .ok (.ifCond .eq off, 3)) (ht : (pc : Int) + off = (tgt : Int)) (hq : pc + 3 = q) (kt : x = 0 → V l g k T' mc ms Q T I P u w tgt L st) (kf : ¬ x = 0 → V l g k T' mc ms Q T I P u w q L st) : V l g k T' mc ms Q T I P u w pc L (.int x :: st) := by
  subst hq
  intro p e s m args below meth c H locs ls hC hK hR hS hL
  exact lv_if_eq hC.1.1.1 hC.1.1.2.1 hd ht (fun h => kt h p e s m args below meth c H locs ls hC hK hR hS hL) (fun h => kf h p e s m args below meth c H locs ls hC hK hR hS hL)
theorem V_icmp_ne {x y : Int32} {off : Int} {tgt : Nat} (hd : decode k.2.1 pc = .ok (.if_icmp .ne off, 3)) (ht : (pc : Int) + off = (tgt : Int)) (hq : pc + 3 = q) (kt : ¬ x = y → V l g k T' mc ms Q T I P u w tgt L st) (kf : x = y → V l g k T' mc ms Q T I P u w q L st) : V l g k T' mc ms Q T I P u w pc L (.int y :: .int x :: st) := by
  subst hq
  intro p e s m args below meth c H locs ls hC hK hR hS hL
  exact lv_icmp_ne hC.1.1.1 hC.1.1.2.1 hd ht (fun h => kt h p e s m args below meth c H locs ls hC hK hR hS hL) (fun h => kf h p e s m args below meth c H locs ls hC hK hR hS hL)
theorem V_if_ne {x : Int32} {off : Int} {tgt : Nat} (hd : decode k.2.1 pc = .ok (.ifCond .ne off, 3)) (ht : (pc : Int) + off = (tgt : Int)) (hq : pc + 3 = q) (kt : ¬ x = 0 → V l g k T' mc ms Q T I P u w tgt L st) (kf : x = 0 → V l g k T' mc ms Q T I P u w q L st) : V l g k T' mc ms Q T I P u w pc L (.int x :: st) := by
  subst hq
  intro p e s m args below meth c H locs ls hC hK hR hS hL
  exact lv_if_ne hC.1.1.1 hC.1.1.2.1 hd ht (fun h => kt h p e s m args below meth c H locs ls hC hK hR hS hL) (fun h => kf h p e s m args below meth c H locs ls hC hK hR hS hL)
theorem V_icmp_lt {x y : Int32} {off : Int} {tgt : Nat} (hd : decode k.2.1 pc = .ok (.if_icmp .lt off, 3)) (ht : (pc : Int) + off = (tgt : Int)) (hq : pc + 3 = q) (kt : x < y → V l g k T' mc ms Q T I P u w tgt L st) (kf : ¬ x < y → V l g k T' mc ms Q T I P u w q L st) : V l g k T' mc ms Q T I P u w pc L (.int y :: .int x :: st) := by
  subst hq
  intro p e s m args below meth c H locs ls hC hK hR hS hL
  exact lv_icmp_lt hC.1.1.1 hC.1.1.2.1 hd ht (fun h => kt h p e s m args below meth c H locs ls hC hK hR hS hL) (fun h => kf h p e s m args below meth c H locs ls hC hK hR hS hL)
theorem V_if_lt {x : Int32} {off : Int} {tgt : Nat} (hd : decode k.2.1 pc = .ok (.ifCond .lt off, 3)) (ht : (pc : Int) + off = (tgt : Int)) (hq : pc + 3 = q) (kt : x < 0 → V l g k T' mc ms Q T I P u w tgt L st) (kf : ¬ x < 0 → V l g k T' mc ms Q T I P u w q L st) : V l g k T' mc ms Q T I P u w pc L (.int x :: st) := by
  subst hq
  intro p e s m args below meth c H locs ls hC hK hR hS hL
  exact lv_if_lt hC.1.1.1 hC.1.1.2.1 hd ht (fun h => kt h p e s m args below meth c H locs ls hC hK hR hS hL) (fun h => kf h p e s m args below meth c H locs ls hC hK hR hS hL)
theorem V_icmp_ge {x y : Int32} {off : Int} {tgt : Nat} (hd : decode k.2.1 pc = .ok (.if_icmp .ge off, 3)) (ht : (pc : Int) + off = (tgt : Int)) (hq : pc + 3 = q) (kt : y ≤ x → V l g k T' mc ms Q T I P u w tgt L st) (kf : ¬ y ≤ x → V l g k T' mc ms Q T I P u w q L st) : V l g k T' mc ms Q T I P u w pc L (.int y :: .int x :: st) := by
  subst hq
  intro p e s m args below meth c H locs ls hC hK hR hS hL
  exact lv_icmp_ge hC.1.1.1 hC.1.1.2.1 hd ht (fun h => kt h p e s m args below meth c H locs ls hC hK hR hS hL) (fun h => kf h p e s m args below meth c H locs ls hC hK hR hS hL)
theorem V_if_ge {x : Int32} {off : Int} {tgt : Nat} (hd : decode k.2.1 pc = .ok (.ifCond .ge off, 3)) (ht : (pc : Int) + off = (tgt : Int)) (hq : pc + 3 = q) (kt : 0 ≤ x → V l g k T' mc ms Q T I P u w tgt L st) (kf : ¬ 0 ≤ x → V l g k T' mc ms Q T I P u w q L st) : V l g k T' mc ms Q T I P u w pc L (.int x :: st) := by
  subst hq
  intro p e s m args below meth c H locs ls hC hK hR hS hL
  exact lv_if_ge hC.1.1.1 hC.1.1.2.1 hd ht (fun h => kt h p e s m args below meth c H locs ls hC hK hR hS hL) (fun h => kf h p e s m args below meth c H locs ls hC hK hR hS hL)
theorem V_icmp_gt {x y : Int32} {off : Int} {tgt : Nat} (hd : decode k.2.1 pc = .ok (.if_icmp .gt off, 3)) (ht : (pc : Int) + off = (tgt : Int)) (hq : pc + 3 = q) (kt : y < x → V l g k T' mc ms Q T I P u w tgt L st) (kf : ¬ y < x → V l g k T' mc ms Q T I P u w q L st) : V l g k T' mc ms Q T I P u w pc L (.int y :: .int x :: st) := by
  subst hq
  intro p e s m args below meth c H locs ls hC hK hR hS hL
  exact lv_icmp_gt hC.1.1.1 hC.1.1.2.1 hd ht (fun h => kt h p e s m args below meth c H locs ls hC hK hR hS hL) (fun h => kf h p e s m args below meth c H locs ls hC hK hR hS hL)
theorem V_if_gt {x : Int32} {off : Int} {tgt : Nat} (hd : decode k.2.1 pc = .ok (.ifCond .gt off, 3)) (ht : (pc : Int) + off = (tgt : Int)) (hq : pc + 3 = q) (kt : 0 < x → V l g k T' mc ms Q T I P u w tgt L st) (kf : ¬ 0 < x → V l g k T' mc ms Q T I P u w q L st) : V l g k T' mc ms Q T I P u w pc L (.int x :: st) := by
  subst hq
  intro p e s m args below meth c H locs ls hC hK hR hS hL
  exact lv_if_gt hC.1.1.1 hC.1.1.2.1 hd ht (fun h => kt h p e s m args below meth c H locs ls hC hK hR hS hL) (fun h => kf h p e s m args below meth c H locs ls hC hK hR hS hL)
theorem V_icmp_le {x y : Int32} {off : Int} {tgt : Nat} (hd : decode k.2.1 pc = .ok (.if_icmp .le off, 3)) (ht : (pc : Int) + off = (tgt : Int)) (hq : pc + 3 = q) (kt : x ≤ y → V l g k T' mc ms Q T I P u w tgt L st) (kf : ¬ x ≤ y → V l g k T' mc ms Q T I P u w q L st) : V l g k T' mc ms Q T I P u w pc L (.int y :: .int x :: st) := by
  subst hq
  intro p e s m args below meth c H locs ls hC hK hR hS hL
  exact lv_icmp_le hC.1.1.1 hC.1.1.2.1 hd ht (fun h => kt h p e s m args below meth c H locs ls hC hK hR hS hL) (fun h => kf h p e s m args below meth c H locs ls hC hK hR hS hL)
theorem V_if_le {x : Int32} {off : Int} {tgt : Nat} (hd : decode k.2.1 pc = .ok (.ifCond .le off, 3)) (ht : (pc : Int) + off = (tgt : Int)) (hq : pc + 3 = q) (kt : x ≤ 0 → V l g k T' mc ms Q T I P u w tgt L st) (kf : ¬ x ≤ 0 → V l g k T' mc ms Q T I P u w q L st) : V l g k T' mc ms Q T I P u w pc L (.int x :: st) := by
  subst hq
  intro p e s m args below meth c H locs ls hC hK hR hS hL
  exact lv_if_le hC.1.1.1 hC.1.1.2.1 hd ht (fun h => kt h p e s m args below meth c H locs ls hC hK hR hS hL) (fun h => kf h p e s m args below meth c H locs ls hC hK hR hS hL)
theorem V_goto {off : Int} {tgt : Nat} (hd : decode k.2.1 pc = .ok (.goto off, 3)) (ht : (pc : Int) + off = (tgt : Int)) (kk : V l g k T' mc ms Q T I P u w tgt L st) : V l g k T' mc ms Q T I P u w pc L st := by
  intro p e s m args below meth c H locs ls hC hK hR hS hL
  exact lv_goto hC.1.1.1 hC.1.1.2.1 hd ht (kk p e s m args below meth c H locs ls hC hK hR hS hL)
theorem V_ifnull {r : Option Nat} {off : Int} {tgt : Nat} (hd : decode k.2.1 pc = .ok (.ifnull off, 3)) (ht : (pc : Int) + off = (tgt : Int)) (hq : pc + 3 = q) (kt : r = none → V l g k T' mc ms Q T I P u w tgt L st) (kf : ∀ a, r = some a → V l g k T' mc ms Q T I P u w q L st) : V l g k T' mc ms Q T I P u w pc L (fw_rf g r :: st) := by
  subst hq
  intro p e s m args below meth c H locs ls hC hK hR hS hL
  cases r with
  | none => exact lv_ifnullN hC.1.1.1 hC.1.1.2.1 hd ht (kt rfl p e s m args below meth c H locs ls hC hK hR hS hL)
  | some a => exact lv_ifnull hC.1.1.1 hC.1.1.2.1 hd (kf a rfl p e s m args below meth c H locs ls hC hK hR hS hL)
theorem V_ifnonnull {r : Option Nat} {off : Int} {tgt : Nat} (hd : decode k.2.1 pc = .ok (.ifnonnull off, 3)) (ht : (pc : Int) + off = (tgt : Int)) (hq : pc + 3 = q) (kt : ∀ a, r = some a → V l g k T' mc ms Q T I P u w tgt L st) (kf : r = none → V l g k T' mc ms Q T I P u w q L st) : V l g k T' mc ms Q T I P u w pc L (fw_rf g r :: st) := by
  subst hq
  intro p e s m args below meth c H locs ls hC hK hR hS hL
  cases r with
  | none => exact lv_ifnonnullN hC.1.1.1 hC.1.1.2.1 hd (kf rfl p e s m args below meth c H locs ls hC hK hR hS hL)
  | some a => exact lv_ifnonnull hC.1.1.1 hC.1.1.2.1 hd ht (kt a rfl p e s m args below meth c H locs ls hC hK hR hS hL)
theorem V_ifnull_s {a : Nat} {off : Int} (hd : decode k.2.1 pc = .ok (.ifnull off, 3)) (hq : pc + 3 = q) (kk : V l g k T' mc ms Q T I P u w q L st) : V l g k T' mc ms Q T I P u w pc L (.ref a :: st) := by
  subst hq
  intro p e s m args below meth c H locs ls hC hK hR hS hL
  exact lv_ifnull hC.1.1.1 hC.1.1.2.1 hd (kk p e s m args below meth c H locs ls hC hK hR hS hL)
theorem V_ifnonnull_s {a : Nat} {off : Int} {tgt : Nat} (hd : decode k.2.1 pc = .ok (.ifnonnull off, 3)) (ht : (pc : Int) + off = (tgt : Int)) (kk : V l g k T' mc ms Q T I P u w tgt L st) : V l g k T' mc ms Q T I P u w pc L (.ref a :: st) := by
  intro p e s m args below meth c H locs ls hC hK hR hS hL
  exact lv_ifnonnull hC.1.1.1 hC.1.1.2.1 hd ht (kk p e s m args below meth c H locs ls hC hK hR hS hL)
theorem V_ifnull_n {off : Int} {tgt : Nat} (hd : decode k.2.1 pc = .ok (.ifnull off, 3)) (ht : (pc : Int) + off = (tgt : Int)) (kk : V l g k T' mc ms Q T I P u w tgt L st) : V l g k T' mc ms Q T I P u w pc L (.null :: st) := by
  intro p e s m args below meth c H locs ls hC hK hR hS hL
  exact lv_ifnullN hC.1.1.1 hC.1.1.2.1 hd ht (kk p e s m args below meth c H locs ls hC hK hR hS hL)
theorem V_ifnonnull_n {off : Int} (hd : decode k.2.1 pc = .ok (.ifnonnull off, 3)) (hq : pc + 3 = q) (kk : V l g k T' mc ms Q T I P u w q L st) : V l g k T' mc ms Q T I P u w pc L (.null :: st) := by
  subst hq
  intro p e s m args below meth c H locs ls hC hK hR hS hL
  exact lv_ifnonnullN hC.1.1.1 hC.1.1.2.1 hd (kk p e s m args below meth c H locs ls hC hK hR hS hL)
theorem V_lookup {dflt : Int} {ps : Array (Int × Int)} {len : Nat} {x : Int32} {off : Int} {tgt : Nat} (hd : decode k.2.1 pc = .ok (.lookupswitch dflt ps, len)) (hp : (ps.toList.zip (ps.toList.drop 1)).all (fun (a, next) => a.1 < next.1) = true) (ho : Op.lookupswitch.offset ps.toList dflt x.toInt = off) (ht : (pc : Int) + off = (tgt : Int)) (kk : V l g k T' mc ms Q T I P u w tgt L st) : V l g k T' mc ms Q T I P u w pc L (.int x :: st) := by
  intro p e s m args below meth c H locs ls hC hK hR hS hL
  exact lv_lookup hC.1.1.1 hC.1.1.2.1 hd hp ho ht (kk p e s m args below meth c H locs ls hC hK hR hS hL)
theorem V_tableOut {dflt lo hi : Int} {offs : Array Int} {len : Nat} {x : Int32} {tgt : Nat} (hd : decode k.2.1 pc = .ok (.tableswitch dflt lo hi offs, len)) (h : x.toInt < lo ∨ hi < x.toInt) (ht : (pc : Int) + dflt = (tgt : Int)) (kk : V l g k T' mc ms Q T I P u w tgt L st) : V l g k T' mc ms Q T I P u w pc L (.int x :: st) := by
  intro p e s m args below meth c H locs ls hC hK hR hS hL
  exact lv_tableOut hC.1.1.1 hC.1.1.2.1 hd h ht (kk p e s m args below meth c H locs ls hC hK hR hS hL)
theorem V_tableIn {dflt lo hi : Int} {offs : Array Int} {len : Nat} {x : Int32} {off : Int} {tgt : Nat} (hd : decode k.2.1 pc = .ok (.tableswitch dflt lo hi offs, len)) (h1 : ¬ x.toInt < lo) (h2 : ¬ hi < x.toInt) (ho : offs[(x.toInt - lo).toNat]? = some off) (ht : (pc : Int) + off = (tgt : Int)) (kk : V l g k T' mc ms Q T I P u w tgt L st) : V l g k T' mc ms Q T I P u w pc L (.int x :: st) := by
  intro p e s m args below meth c H locs ls hC hK hR hS hL
  exact lv_tableIn hC.1.1.1 hC.1.1.2.1 hd h1 h2 ho ht (kk p e s m args below meth c H locs ls hC hK hR hS hL)
/-! fields -/
def fw_at (T : fw_T) (a c n : Nat) : Prop := a < T.1 ∧ T.2 a = (c, n)
def fw_cl (ci : Nat) (C : String) (Tt : u_T) (N : Nat) (ty : Nat → FieldType) : Prop := vwCl[ci]? = some (C, Tt, N) ∧ ci < 9 ∧ (∀ w ∈ u_ws C Tt N, w ∈ fw_U) ∧ (∀ k, k < N → parseFieldDescriptor (Tt k).2.2.1 = some (ty k)) ∧ (∀ a, a < N → ∀ b, b < N → a ≠ b → (Tt a).2.1 ≠ (Tt b).2.1) ∧ ∀ (g : fw_G) (I : fw_I) (P : fw_P) (a : Nat), (fw_fs g I P a ci).length = N
theorem fw_at.get {T : fw_T} {a c : Nat} (h : fw_at T a c 0) (hc : c < 9) (g : fw_G) (I : fw_I) (P : fw_P) : (fw_ws g T I P)[a]? = some (g.1 + a, .inr (c, fw_fs g I P a c)) := by
  rw [fw_ws_get g T I P h.1, h.2, fw_ent_ob g I P a 0 hc]
theorem V_get {ci kf idx a N : Nat} {C : String} {Tt : u_T} {ty : Nat → FieldType} {v : Value} (hc : fw_cl ci C Tt N ty) (hk : kf < N) (hl : Cond.fieldLink k.1.cls idx (Tt kf).1 (Tt kf).2.1 (Tt kf).2.2.1 ∈ fw_U) (hT : fw_at T a ci 0) (hv : (fw_fs g I P a ci)[kf]? = some v) (hd : decode k.2.1 pc = .ok (.getfield idx, 3)) (hq : pc + 3 = q) (kk : V l g k T' mc ms Q T I P u w q L (v :: st)) : V l g k T' mc ms Q T I P u w pc L (.ref (g.1 + a) :: st) := by
  subst hq
  intro p e s m args below meth c H locs ls hC hK hR hS hL
  exact va_get (D := g.2.1) hC.1.1.1 hC.1.1.2.1 hC.1.1.2.2.2.2 hc.2.2.1 hC.1.1.2.2.2.1 hK.1 hR a (hT.get hc.2.1 g I P) hc.1 kf hk (hC.1.1.2.2.2.2 _ hl) (fun _ h9 => h9) hv hd (kk p e s m args below meth c H locs ls hC hK hR hS hL)
theorem V_puti {ci kf idx a N : Nat} {C : String} {Tt : u_T} {ty : Nat → FieldType} {fty : FieldType} {x : Int32} (hc : fw_cl ci C Tt N ty) (hk : kf < N) (hi : fw_int ci kf = true) (hl : Cond.fieldLink k.1.cls idx (Tt kf).1 (Tt kf).2.1 (Tt kf).2.2.1 ∈ fw_U) (hfin : (Tt kf).2.2.2 = false) (hty : ty kf = fty) (hn : narrow fty (.int x) = .int x) (hf : fits fty (.int x) = true) (hT : fw_at T a ci 0) (hd : decode k.2.1 pc = .ok (.putfield idx, 3)) (hq : pc + 3 = q) (kk : V l g k T' mc ms Q T (up2 I a kf x) P u w q L st) : V l g k T' mc ms Q T I P u w pc L (.int x :: .ref (g.1 + a) :: st) := by
  subst hq
  intro p e s m args below meth c H locs ls hC hK hR hS hL
  refine va_put (D := g.2.1) (ty := fty) hC.1.1.1 hC.1.1.2.1 hC.1.1.2.2.2.2 hc.2.2.1 ty hc.2.2.2.1 hc.2.2.2.2.1 hC.1.1.2.2.2.1 hK.1 hR (fw_D g T I P) hS a (hT.get hc.2.1 g I P) hc.1 kf hk (hC.1.1.2.2.2.2 _ hl) (fun _ h9 => h9) hfin (by rw [hc.2.2.2.1 kf hk, hty]) hn hf (by rw [hc.2.2.2.2.2]; exact hk) hd (fun H1 locs1 hP1 hD1 hS1 => ?_)
  have e9 : (fw_ws g T I P).set a (g.1 + a, .inr (ci, (fw_fs g I P a ci).set kf (.int x))) = fw_ws g T (up2 I a kf x) P :=
    fw_ws_set g T I (up2 I a kf x) P P hT.1 (by rw [hT.2, fw_ent_ob g _ P a 0 hc.2.1, fw_seti g I P a x ci kf hi]) (fun b hb => up2_ne I kf x hb) (fun _ _ => rfl)
  rw [e9] at hP1
  exact kk p e s m args below meth c H1 locs1 ls hC hK hP1 hS1 hL
theorem fw_ent_i (g : fw_G) (I : fw_I) (P : fw_P) (a n j : Nat) (x : Int32) : fw_ent g (up2 I a j x) P a (9, n) = .inl (g.2.2 9, n, .inl (upd (I a) j x)) := by
  show Sum.inl (g.2.2 9, n, Sum.inl (up2 I a j x a)) = _
  rw [up2_row]
  rfl
theorem fw_ent_z (g : fw_G) (I : fw_I) (P : fw_P) (a n j : Nat) (x : Int32) : fw_ent g (up2 I a j x) P a (10, n) = .inl (g.2.2 10, n, .inl (upd (I a) j x)) := by
  show Sum.inl (g.2.2 10, n, Sum.inl (up2 I a j x a)) = _
  rw [up2_row]
  rfl
/-- the arrays of references: the class of their elements -/
def fw_el (kd ce : Nat) (r : vw_C) : Prop := (kd = 11 ∧ ce = 3 ∧ r = (RX3, TX3, 10)) ∨ (kd = 12 ∧ ce = 2 ∧ r = (RX2, TX2, 7)) ∨ (kd = 13 ∧ ce = 0 ∧ r = (RX0, TX0, 4)) ∨ (kd = 14 ∧ ce = 6 ∧ r = (RX6, TX6, 4))
theorem fw_el.ty {kd ce : Nat} {r : vw_C} (h : fw_el kd ce r) (g : fw_G) : (fw_tys g)[kd - 9]? = some (g.2.2 kd, .object r.1) := by
  rcases h with ⟨rfl, rfl, rfl⟩ | ⟨rfl, rfl, rfl⟩ | ⟨rfl, rfl, rfl⟩ | ⟨rfl, rfl, rfl⟩ <;> rfl
theorem fw_el.cl {kd ce : Nat} {r : vw_C} (h : fw_el kd ce r) : vwCl[ce]? = some r := by
  rcases h with ⟨rfl, rfl, rfl⟩ | ⟨rfl, rfl, rfl⟩ | ⟨rfl, rfl, rfl⟩ | ⟨rfl, rfl, rfl⟩ <;> rfl
theorem fw_el.lt {kd ce : Nat} {r : vw_C} (h : fw_el kd ce r) : ce < 9 := by
  rcases h with ⟨rfl, rfl, rfl⟩ | ⟨rfl, rfl, rfl⟩ | ⟨rfl, rfl, rfl⟩ | ⟨rfl, rfl, rfl⟩ <;> decide
theorem fw_el.ent {kd ce : Nat} {r : vw_C} (h : fw_el kd ce r) (g : fw_G) (I : fw_I) (P : fw_P) (a n : Nat) : fw_ent g I P a (kd, n) = .inl (g.2.2 kd, n, .inr (.inr (.inr (.inr (fun j => (P a j).map fun b => g.1 + b))))) := by
  rcases h with ⟨rfl, rfl, rfl⟩ | ⟨rfl, rfl, rfl⟩ | ⟨rfl, rfl, rfl⟩ | ⟨rfl, rfl, rfl⟩ <;> rfl

/-! arrays -/
def fw_ix (i : Int32) (j n : Nat) : Prop := ¬ i < 0 ∧ i.toNatClampNeg = j ∧ j < n
theorem fw_ix.in {i : Int32} {j n : Nat} (h : fw_ix i j n) : vp_in i n := fun q => q.elim h.1 (fun z => by have := h.2.1; have := h.2.2; omega)
theorem fw_ix_nI {j n : Nat} (h : j < n) (hn : n < 2 ^ 31) : fw_ix (nI j) j n := ⟨nI_pos (by omega), nI_clamp (by omega), h⟩
theorem V_iald {a n j : Nat} {i : Int32} (hT : fw_at T a 9 n) (hi : fw_ix i j n) (hd : decode k.2.1 pc = .ok (.iaload, 1)) (hq : pc + 1 = q) (kk : V l g k T' mc ms Q T I P u w q L (.int (I a j) :: st)) : V l g k T' mc ms Q T I P u w pc L (.int i :: .ref (g.1 + a) :: st) := by
  subst hq
  intro p e s m args below meth c H locs ls hC hK hR hS hL
  have kk := kk p e s m args below meth c H locs ls hC hK hR hS hL
  rw [← hi.2.1] at kk
  exact va_iald (D := g.2.1) hC.1.1.1 hC.1.1.2.1 hK.1 hR a 0 (by rw [fw_ws_get g T I P hT.1, hT.2]; rfl) rfl hi.in hd kk
theorem V_zald {a n j : Nat} {i : Int32} (hT : fw_at T a 10 n) (hi : fw_ix i j n) (hd : decode k.2.1 pc = .ok (.baload, 1)) (hq : pc + 1 = q) (kk : V l g k T' mc ms Q T I P u w q L (.int (I a j) :: st)) : V l g k T' mc ms Q T I P u w pc L (.int i :: .ref (g.1 + a) :: st) := by
  subst hq
  intro p e s m args below meth c H locs ls hC hK hR hS hL
  have kk := kk p e s m args below meth c H locs ls hC hK hR hS hL
  rw [← hi.2.1] at kk
  exact va_zald (D := g.2.1) hC.1.1.1 hC.1.1.2.1 hK.1 hR a 1 (by rw [fw_ws_get g T I P hT.1, hT.2]; rfl) rfl hi.in hd kk
theorem fw_upd (I : fw_I) (a j : Nat) (x : Int32) : up2 I a j x a = upd (I a) j x := by
  rw [up2_row]
  rfl
theorem V_iast {a n j : Nat} {i x : Int32} (hT : fw_at T a 9 n) (hi : fw_ix i j n) (hd : decode k.2.1 pc = .ok (.iastore, 1)) (hq : pc + 1 = q) (kk : V l g k T' mc ms Q T (up2 I a j x) P u w q L st) : V l g k T' mc ms Q T I P u w pc L (.int x :: .int i :: .ref (g.1 + a) :: st) := by
  subst hq
  intro p e s m args below meth c H locs ls hC hK hR hS hL
  refine va_iast (D := g.2.1) hC.1.1.1 hC.1.1.2.1 hK.1 hR (fw_D g T I P) hS a 0 (by rw [fw_ws_get g T I P hT.1, hT.2]; rfl) rfl hi.in hd (fun H1 locs1 hP1 hD1 hS1 => ?_)
  rw [hi.2.1, fw_ws_set g T I (up2 I a j x) P P hT.1 (by rw [hT.2]; exact fw_ent_i g _ P a n j x) (fun b hb => up2_ne I j x hb) (fun _ _ => rfl)] at hP1
  exact kk p e s m args below meth c H1 locs1 ls hC hK hP1 hS1 hL
theorem V_zast {a n j : Nat} {i x : Int32} (hx : vp_nar .boolean x = x) (hT : fw_at T a 10 n) (hi : fw_ix i j n) (hd : decode k.2.1 pc = .ok (.bastore, 1)) (hq : pc + 1 = q) (kk : V l g k T' mc ms Q T (up2 I a j x) P u w q L st) : V l g k T' mc ms Q T I P u w pc L (.int x :: .int i :: .ref (g.1 + a) :: st) := by
  subst hq
  intro p e s m args below meth c H locs ls hC hK hR hS hL
  refine va_zast (D := g.2.1) hC.1.1.1 hC.1.1.2.1 hK.1 hR (fw_D g T I P) hS a 1 (by rw [fw_ws_get g T I P hT.1, hT.2]; rfl) rfl hi.in hd (fun H1 locs1 hP1 hD1 hS1 => ?_)
  rw [hi.2.1, hx, fw_ws_set g T I (up2 I a j x) P P hT.1 (by rw [hT.2]; exact fw_ent_z g _ P a n j x) (fun b hb => up2_ne I j x hb) (fun _ _ => rfl)] at hP1
  exact kk p e s m args below meth c H1 locs1 ls hC hK hP1 hS1 hL

theorem V_aald {kd ce a n j : Nat} {r : vw_C} {i : Int32} (he : fw_el kd ce r) (hT : fw_at T a kd n) (hi : fw_ix i j n) (hd : decode k.2.1 pc = .ok (.aaload, 1)) (hq : pc + 1 = q) (kk : V l g k T' mc ms Q T I P u w q L (fw_rf g (P a j) :: st)) : V l g k T' mc ms Q T I P u w pc L (.int i :: .ref (g.1 + a) :: st) := by
  subst hq
  intro p e s m args below meth c H locs ls hC hK hR hS hL
  have kk := kk p e s m args below meth c H locs ls hC hK hR hS hL
  rw [← hi.2.1, ← fw_rf_map] at kk
  exact va_aldq (D := g.2.1) hC.1.1.1 hC.1.1.2.1 hK.1 hR a (kd - 9) (by rw [fw_ws_get g T I P hT.1, hT.2, he.ent]) (he.ty g) hi.in hd kk
theorem V_aast {kd ce a n j b : Nat} {r : vw_C} {i : Int32} (he : fw_el kd ce r) (hT : fw_at T a kd n) (hb : fw_at T b ce 0) (hi : fw_ix i j n) (hd : decode k.2.1 pc = .ok (.aastore, 1)) (hq : pc + 1 = q) (kk : V l g k T' mc ms Q T I (up2 P a j (some b)) u w q L st) : V l g k T' mc ms Q T I P u w pc L (.ref (g.1 + b) :: .int i :: .ref (g.1 + a) :: st) := by
  subst hq
  intro p e s m args below meth c H locs ls hC hK hR hS hL
  refine va_astq (D := g.2.1) hC.1.1.1 hC.1.1.2.1 hK.1 hR (fw_D g T I P) hS a (kd - 9) b ce (by rw [fw_ws_get g T I P hT.1, hT.2, he.ent]) (he.ty g) (hb.get he.lt g I P) he.cl hi.in hd (fun H1 locs1 hP1 hD1 hS1 => ?_)
  rw [hi.2.1, fw_ws_set g T I I P (up2 P a j (some b)) hT.1 (by
    rw [hT.2, he.ent]
    congr 7
    funext x
    rw [up2_row]
    unfold va_up
    by_cases hx : x = j <;> simp [hx]) (fun _ _ => rfl) (fun b0 hb0 => up2_ne P j (some b) hb0)] at hP1
  exact kk p e s m args below meth c H1 locs1 ls hC hK hP1 hS1 hL
theorem V_alen {kd a n : Nat} (hkd : 9 ≤ kd ∧ kd < 15) (hT : fw_at T a kd n) (hd : decode k.2.1 pc = .ok (.arraylength, 1)) (hq : pc + 1 = q) (kk : V l g k T' mc ms Q T I P u w q L (.int (nI n) :: st)) : V l g k T' mc ms Q T I P u w pc L (.ref (g.1 + a) :: st) := by
  subst hq
  intro p e s m args below meth c H locs ls hC hK hR hS hL
  have kk := kk p e s m args below meth c H locs ls hC hK hR hS hL
  have key : ∀ (x : vp_A) (ty : FieldType), (fw_ws g T I P)[a]? = some (g.1 + a, .inl (g.2.2 kd, x)) → (fw_tys g)[kd - 9]? = some (g.2.2 kd, ty) → x.1 = n → W p l e (fw_rm k mc ms) s m args below meth c H locs u w (MQ below (fw_post g T' Q) args s mc ms (fw_A g)) (F0 m pc ls (.ref (g.1 + a) :: st)) := by
    intro x ty h1 h2 h3
    exact va_alen (D := g.2.1) hC.1.1.1 hC.1.1.2.1 hK.1 hR a (kd - 9) h1 h2 (by rw [h3]; rfl) hd kk
  have hget := fw_ws_get g T I P hT.1
  rw [hT.2] at hget
  rcases (show kd = 9 ∨ kd = 10 ∨ kd = 11 ∨ kd = 12 ∨ kd = 13 ∨ kd = 14 by omega) with rfl | rfl | rfl | rfl | rfl | rfl
  · exact key (n, .inl (I a)) .int hget rfl rfl
  · exact key (n, .inl (I a)) .boolean hget rfl rfl
  · exact key (n, .inr (.inr (.inr (.inr (fun j => (P a j).map fun b => g.1 + b))))) (.object RX3) hget rfl rfl
  · exact key (n, .inr (.inr (.inr (.inr (fun j => (P a j).map fun b => g.1 + b))))) (.object RX2) hget rfl rfl
  · exact key (n, .inr (.inr (.inr (.inr (fun j => (P a j).map fun b => g.1 + b))))) (.object RX0) hget rfl rfl
  · exact key (n, .inr (.inr (.inr (.inr (fun j => (P a j).map fun b => g.1 + b))))) (.object RX6) hget rfl rfl
/-! ends -/
theorem V_ireturn {ty : FieldType} {v : Int32} (hr : k.2.2.2.1 = some ty) (hn : narrow ty (.int v) = .int v) (hd : decode k.2.1 pc = .ok (.ireturn, 1)) (hT : T = T') (hu : u = mc) (hw : w = ms) (hQ : Q (some (.int v)) I P) : V l g k T' mc ms Q T I P u w pc L [.int v] := by
  subst hT hu hw
  intro p e s m args below meth c H locs ls hC hK hR hS hL
  exact W.zret (v := v) hC.1.1.1 hC.1.1.2.1 (hC.1.2.1.trans hr) hn (fun t ht hW => ⟨⟨_, I, P, rfl, hQ, by rw [ht]; exact hR⟩, hS.F ht⟩) hS.2.2 hd hC.1.2.2.1
theorem V_return (hr : k.2.2.2.1 = none) (hd : decode k.2.1 pc = .ok (.return_, 1)) (hT : T = T') (hu : u = mc) (hw : w = ms) (hQ : Q none I P) : V l g k T' mc ms Q T I P u w pc L [] := by
  subst hT hu hw
  intro p e s m args below meth c H locs ls hC hK hR hS hL
  exact W.vret hC.1.1.1 hC.1.1.2.1 (hC.1.2.1.trans hr) (fun t ht hW => ⟨⟨_, I, P, rfl, hQ, by rw [ht]; exact hR⟩, hS.F ht⟩) hS.2.2 hd hC.1.2.2.1
theorem V_areturn {C : String} {r : Option Nat} (hr : k.2.2.2.1 = some (.object C)) (hd : decode k.2.1 pc = .ok (.areturn, 1)) (hT : T = T') (hu : u = mc) (hw : w = ms) (hQ : Q (some (fw_rf g r)) I P) : V l g k T' mc ms Q T I P u w pc L [fw_rf g r] := by
  subst hT hu hw
  intro p e s m args below meth c H locs ls hC hK hR hS hL
  exact W.aret (v := fw_rf g r) hC.1.1.1 hC.1.1.2.1 (hC.1.2.1.trans hr) (Or.inl ⟨C, rfl⟩) (by cases r with | none => exact Or.inl rfl | some a => exact Or.inr ⟨_, rfl⟩) (fun t ht hW => ⟨⟨_, I, P, rfl, hQ, by rw [ht]; exact hR⟩, hS.F ht⟩) hS.2.2 hd hC.1.2.2.1
/-! allocation -/
def fw_push (T : fw_T) (kd : Nat × Nat) : fw_T := (T.1 + 1, fun a => if a = T.1 then kd else T.2 a)
def fw_z {α : Type} (I : Nat → Nat → α) (n : Nat) (x : α) : Nat → Nat → α := fun b => if b = n then (fun _ => x) else I b
theorem fw_ws_push (g : fw_G) (T : fw_T) (I : fw_I) (P : fw_P) (kd : Nat × Nat) : fw_ws g (fw_push T kd) (fw_z I T.1 0) (fw_z P T.1 none) = fw_ws g T I P ++ [(g.1 + T.1, fw_ent g (fun _ _ => 0) (fun _ _ => none) T.1 kd)] := by
  unfold fw_ws fw_push
  simp only [List.range_succ, List.map_append, List.map_cons, List.map_nil, if_true]
  congr 1
  · apply List.map_congr_left
    intro a ha
    have : a ≠ T.1 := by have := List.mem_range.mp ha; omega
    simp only [this, if_false]
    congr 1
    unfold fw_ent fw_fs fw_z
    simp only [this, if_false]
  · congr 2
    unfold fw_ent fw_fs fw_z
    simp only [if_true]
theorem fw_sized {p : Program} {e : Env} {s : State} {m : MethodId} {args : Array Value} {below : List Frame} {meth : Method} {c : Code} {R : Room} {H : Heap} {locs : List Loc} {Qw : State → Prop} {f : JFrame} (hz : s.heap.size + u = g.1 + T.1) (hg : g.1 ≤ s.heap.size) (hS : va_S (fw_A g) s.heap H locs) (hR : fw_R g T I P H) (h : H.size = g.1 + T.1 → W p l e R s m args below meth c H locs u w Qw f) : W p l e R s m args below meth c H locs u w Qw f := by
  intro T0 hT0 X
  refine h ?_ T0 hT0 X
  have h1 := X.heapSize
  rw [hT0] at h1
  have h2 := hS.1
  rcases Nat.eq_zero_or_pos T.1 with h0 | h0
  · omega
  · have h3 := (hR (T.1 - 1) _ (fw_ws_get g T I P (a := T.1 - 1) (by omega))).lt
    show H.size = _
    have h4 : (g.1 + (T.1 - 1), fw_ent g I P (T.1 - 1) (T.2 (T.1 - 1))).1 = g.1 + (T.1 - 1) := rfl
    omega
theorem fw_newcell {p : Program} {e : Env} {s : State} {m : MethodId} {args : Array Value} {below : List Frame} {meth : Method} {c : Code} {H1 : Heap} {locs : List Loc} {ls : Array Slot} {a0 : Nat} {e0 : va_E} {kd : Nat × Nat} {n1 : Nat}
    (hC : fw_C g k p s m args meth c ∧ s.heap.size + u = g.1 + T.1) (hK : fw_K g s) (hL : fw_L ls k.2.2.1 L) (ha : a0 = g.1 + T.1) (he : fw_ent g (fun _ _ => 0) (fun _ _ => none) T.1 kd = e0)
    (hP1 : va_P g.2.1 vwCl (fw_ws g T I P ++ [(a0, e0)]) H1) (hS1 : va_S (fw_A g) s.heap H1 locs)
    (kk : V l g k T' mc ms Q (fw_push T kd) (fw_z I T.1 0) (fw_z P T.1 none) (u + 1) n1 q L (.ref (g.1 + T.1) :: st)) :
    W p l e (fw_rm k mc ms) s m args below meth c H1 locs (u + 1) n1 (MQ below (fw_post g T' Q) args s mc ms (fw_A g)) (F0 m q ls (.ref a0 :: st)) := by
  subst ha
  subst he
  rw [← fw_ws_push] at hP1
  exact kk p e s m args below meth c H1 locs ls ⟨hC.1, by show _ = g.1 + (T.1 + 1); have := hC.2; omega⟩ hK hP1 hS1 hL
theorem V_new {ci idx N : Nat} {C : String} {Tt : u_T} {ty : Nat → FieldType} (hc : fw_cl ci C Tt N ty) (hdf : ∀ j, j < N → defaultValue (ty j) = vp_V (fw_fs g (fun _ _ => 0) (fun _ _ => none) T.1 ci) j) (hl : Cond.classLink k.1.cls idx C ∈ fw_U) (hin : Cond.instantiable C N ∈ fw_U) (hini : Cond.initialized C ∈ fw_U) (hu : u + 1 ≤ mc) (hw : w + N ≤ ms) (hd : decode k.2.1 pc = .ok (.new idx, 3)) (hq : pc + 3 = q)
    (kk : V l g k T' mc ms Q (fw_push T (ci, 0)) (fw_z I T.1 0) (fw_z P T.1 none) (u + 1) (w + N) q L (.ref (g.1 + T.1) :: st)) : V l g k T' mc ms Q T I P u w pc L st := by
  subst hq
  intro p e s m args below meth c H locs ls hC hK hR hS hL
  refine fw_sized hC.2 hC.1.2.2.2.2 hS hR (fun hz => ?_)
  have hcl := hC.1.1.2.2.2.2
  refine W.newcK hC.1.1.1 hC.1.1.2.1 hC.1.1.2.2.2.1 (hcl _ hl) (hcl _ hin) (hcl _ hini) rfl hd hu hw (hK.1.1 ci _ hc.1).2.1 rfl (fun H1 kC hkC e1 z1 o1 => ?_)
  have hk : ∀ (k0 : Nat) (x : Nat × va_E), (fw_ws g T I P)[k0]? = some x → H1[x.1]? = H[x.1]? := fun k0 x hx => o1 x.1 ((hR k0 x hx).lt)
  refine fw_newcell hC hK hL hz (fw_ent_ob g _ _ T.1 0 hc.2.1) ((va_P.kept hR hk).app (fun k0 x hx => ?_)) ⟨Nat.le_trans hS.1 (by omega), fun x h1 h2 => (o1 x (Nat.lt_of_lt_of_le h1 hS.1)).trans (hS.2.1 x h1 h2), hS.2.2⟩ kk
  have hz0 : k0 < 1 := (List.getElem?_eq_some_iff.mp hx).1
  rw [show k0 = 0 by omega] at hx
  cases hx
  exact ⟨_, hc.1, (u_born ty hcl hc.2.2.1 (hK.1.1 ci _ hc.1) hkC e1 hc.2.2.2.1).to hdf⟩
theorem V_newa {kd N : Nat} {at0 : ArrayType} {n : Int32} {ty : FieldType} (hkd : (kd = 9 ∧ ty = .int) ∨ (kd = 10 ∧ ty = .boolean)) (hty : newarray.typeOf at0 = ty) (hac : Cond.arrayClass ty ∈ fw_U) (hn : ¬ n < 0) (hN : n.toNatClampNeg = N) (hb : N * componentBytes ty ≤ 536870912) (hu : u + 1 ≤ mc) (hw : w + N ≤ ms) (hd : decode k.2.1 pc = .ok (.newarray at0, 2)) (hq : pc + 2 = q)
    (kk : V l g k T' mc ms Q (fw_push T (kd, N)) (fw_z I T.1 0) (fw_z P T.1 none) (u + 1) (w + N) q L (.ref (g.1 + T.1) :: st)) : V l g k T' mc ms Q T I P u w pc L (.int n :: st) := by
  subst hty
  subst hq
  intro p e s m args below meth c H locs ls hC hK hR hS hL
  refine fw_sized hC.2 hC.1.2.2.2.2 hS hR (fun hz => ?_)
  refine va_newaK hC.1.1.1 hC.1.1.2.1 (hC.1.1.2.2.2.2 _ hac) rfl hd rfl hn hN hb hu hw rfl (fun H1 cA e1 z1 o1 hAr hNm => ?_)
  have hk : ∀ (k0 : Nat) (x : Nat × va_E), (fw_ws g T I P)[k0]? = some x → H1[x.1]? = H[x.1]? := fun k0 x hx => o1 x.1 ((hR k0 x hx).lt)
  have hS1 : va_S (fw_A g) s.heap H1 locs := ⟨Nat.le_trans hS.1 (by omega), fun x h1 h2 => (o1 x (Nat.lt_of_lt_of_le h1 hS.1)).trans (hS.2.1 x h1 h2), hS.2.2⟩
  rcases hkd with ⟨rfl, h9⟩ | ⟨rfl, h9⟩
  · rw [h9] at e1 hNm
    have hcA : cA = g.2.2 9 := by
      have h2 := (hK.1.2 0 _ rfl).2
      exact Option.some.inj (hNm.symm.trans h2)
    subst hcA
    refine fw_newcell hC hK hL hz rfl ((va_P.kept hR hk).app (fun k0 x hx => ?_)) hS1 kk
    have hz0 : k0 < 1 := (List.getElem?_eq_some_iff.mp hx).1
    rw [show k0 = 0 by omega] at hx
    cases hx
    exact e1
  · rw [h9] at e1 hNm
    have hcA : cA = g.2.2 10 := by
      have h2 := (hK.1.2 1 _ rfl).2
      exact Option.some.inj (hNm.symm.trans h2)
    subst hcA
    refine fw_newcell hC hK hL hz rfl ((va_P.kept hR hk).app (fun k0 x hx => ?_)) hS1 kk
    have hz0 : k0 < 1 := (List.getElem?_eq_some_iff.mp hx).1
    rw [show k0 = 0 by omega] at hx
    cases hx
    exact e1
theorem V_anew {kd ce N idx : Nat} {r : vw_C} {n : Int32} (he : fw_el kd ce r) (hl : Cond.classLink k.1.cls idx r.1 ∈ fw_U) (hov : Cond.arrayOver (.object r.1) ∈ fw_U) (hn : ¬ n < 0) (hN : n.toNatClampNeg = N) (hb : N * 4 ≤ 536870912) (hu : u + 1 ≤ mc) (hw : w + N ≤ ms) (hd : decode k.2.1 pc = .ok (.anewarray idx, 3)) (hq : pc + 3 = q)
    (kk : V l g k T' mc ms Q (fw_push T (kd, N)) (fw_z I T.1 0) (fw_z P T.1 none) (u + 1) (w + N) q L (.ref (g.1 + T.1) :: st)) : V l g k T' mc ms Q T I P u w pc L (.int n :: st) := by
  subst hN
  subst hq
  intro p e s m args below meth c H locs ls hC hK hR hS hL
  refine fw_sized hC.2 hC.1.2.2.2.2 hS hR (fun hz => ?_)
  refine W.anew hC.1.1.1 hC.1.1.2.1 hC.1.1.2.2.2.1 (hC.1.1.2.2.2.2 _ hl) (hC.1.1.2.2.2.2 _ hov) rfl hd rfl hn hb hu hw (fun cA kA comp f1 f2 f3 f4 => ?_)
  generalize hH1 : H.push ({ cls := cA, slots := Array.replicate n.toNatClampNeg .null, vm := .none } : Cell) = H1
  have z1 : H1.size = H.size + 1 := by rw [← hH1, Array.size_push]
  have e1 : H1[H.size]? = some (arrV cA n.toNatClampNeg (fun _ => .null)) := by rw [← hH1, Array.getElem?_push_size, ← arrV_new]
  have o1 : ∀ x : Nat, x < H.size → H1[x]? = H[x]? := fun x hx => by rw [← hH1, Array.getElem?_push, if_neg (Nat.ne_of_lt hx)]
  have hk : ∀ (k0 : Nat) (x : Nat × va_E), (fw_ws g T I P)[k0]? = some x → H1[x.1]? = H[x.1]? := fun k0 x hx => o1 x.1 ((hR k0 x hx).lt)
  have hS1 : va_S (fw_A g) s.heap H1 locs := ⟨Nat.le_trans hS.1 (by omega), fun x h1 h2 => (o1 x (Nat.lt_of_lt_of_le h1 hS.1)).trans (hS.2.1 x h1 h2), hS.2.2⟩
  have hcA : cA = g.2.2 kd := by
    obtain ⟨kA2, comp2, h1, h2, h3, h4⟩ := (hK.1.2 (kd - 9) _ (he.ty g)).2
    have h5 : s.vm.findClass ("[" ++ (FieldType.object r.1).toString) = some cA := by first | exact f1 | exact f4
    exact Option.some.inj (h5.symm.trans h4)
  subst hcA
  refine fw_newcell hC hK hL hz (he.ent g _ _ T.1 n.toNatClampNeg) ((va_P.kept hR hk).app (fun k0 x hx => ?_)) hS1 kk
  have hz0 : k0 < 1 := (List.getElem?_eq_some_iff.mp hx).1
  rw [show k0 = 0 by omega] at hx
  cases hx
  show H1[H.size]? = some (vp_cell _ _)
  rw [e1]
  rfl
theorem V_putrF {ci kf idx a N : Nat} {C : String} {Tt : u_T} {ty : Nat → FieldType} {b : Nat} (hc : fw_cl ci C Tt N ty) (hk : kf < N) (hi : fw_refs ci kf = true) (hl : Cond.fieldLink k.1.cls idx (Tt kf).1 (Tt kf).2.1 (Tt kf).2.2.1 ∈ fw_U) (hfin : (Tt kf).2.2.2 = true) (hinit : k.1.name = "<init>") (hown : (Tt kf).1 = k.1.cls) (hn : narrow (ty kf) (.ref (g.1 + b)) = .ref (g.1 + b)) (hf : fits (ty kf) (.ref (g.1 + b)) = true) (hT : fw_at T a ci 0) (hd : decode k.2.1 pc = .ok (.putfield idx, 3)) (hq : pc + 3 = q) (kk : V l g k T' mc ms Q T I (up2 P a kf (some b)) u w q L st) : V l g k T' mc ms Q T I P u w pc L (.ref (g.1 + b) :: .ref (g.1 + a) :: st) := by
  subst hq
  intro p e s m args below meth c H locs ls hC hK hR hS hL
  refine va_putF (D := g.2.1) (ty := ty kf) hC.1.1.1 hC.1.1.2.1 hC.1.1.2.2.2.2 hc.2.2.1 ty hc.2.2.2.1 hc.2.2.2.2.1 hC.1.1.2.2.2.1 hK.1 hR (fw_D g T I P) hS a (hT.get hc.2.1 g I P) hc.1 kf hk (hC.1.1.2.2.2.2 _ hl) (fun _ h9 => h9) hfin (hC.1.2.2.2.1.trans hinit) hown (hc.2.2.2.1 kf hk) hn hf (by rw [hc.2.2.2.2.2]; exact hk) hd (fun H1 locs1 hP1 hD1 hS1 => ?_)
  have e9 : (fw_ws g T I P).set a (g.1 + a, .inr (ci, (fw_fs g I P a ci).set kf (.ref (g.1 + b)))) = fw_ws g T I (up2 P a kf (some b)) :=
    fw_ws_set g T I I P (up2 P a kf (some b)) hT.1 (by rw [hT.2, fw_ent_ob g _ _ a 0 hc.2.1, ← fw_setr g I P a (some b) ci kf hi]; rfl) (fun _ _ => rfl) (fun b0 hb => up2_ne P kf (some b) hb)
  rw [e9] at hP1
  exact kk p e s m args below meth c H1 locs1 ls hC hK hP1 hS1 hL
theorem V_objInit {idx a : Nat} (hl : Cond.methodLink k.1.cls idx Lib.objectInit ∈ fw_U) (hin : Cond.instanceMethod Lib.objectInit ∈ fw_U) (hcode : Cond.code Lib.objectInit ⟨#[0xb1]⟩ 1 none ∈ fw_U) (hd : decode k.2.1 pc = .ok (.invokespecial idx, 3)) (hq : pc + 3 = q) (hfr : 1 ≤ k.2.2.2.2.1) (hlo : (st.map fun v => v.category).sum + 12 ≤ k.2.2.2.2.2) (kk : V l g k T' mc ms Q T I P u w q L st) : V l g k T' mc ms Q T I P u w pc L (.ref a :: st) := by
  subst hq
  intro p e s m args below meth c H locs ls hC hK hR hS hL
  refine W.objInit hC.1.1.1 hC.1.1.2.1 hC.1.1.2.2.2.1 (hC.1.1.2.2.2.2 _ hl) (hC.1.1.2.2.2.2 _ hin) (hC.1.1.2.2.2.2 _ hcode) rfl (by show ls.size = c.maxLocals; rw [hC.1.1.2.2.1]; exact hL.1) rfl hd hfr (by show 2 * (F0 m pc ls (.ref a :: st)).monitorRoom + _ + 12 ≤ _; rw [show (F0 m pc ls (.ref a :: st)).monitorRoom = 0 from rfl]; show 2 * 0 + _ + 12 ≤ k.2.2.2.2.2; omega) ?_
  exact kk p e s m args below meth c H locs ls hC hK hR hS hL
/-! calls -/
def fw_plain (y : MethodName) (n : Nat) : Prop := y.cls ≠ "java/lang/invoke/MethodHandle" ∧ y.cls ≠ "java/lang/invoke/VarHandle" ∧ (parseMethodDescriptor y.desc).map (fun d => d.parameters.length) = some n
def fw_kc (k0 : fw_M) (n : Nat) : Prop := Cond.code k0.1 k0.2.1 k0.2.2.1 k0.2.2.2.1 ∈ fw_U ∧ Cond.initialized k0.1.cls ∈ fw_U ∧ fw_plain k0.1 n
def fw_kv (k0 : fw_M) (ci n : Nat) : Prop := fw_kc k0 n ∧ Cond.instanceMethod k0.1 ∈ fw_U ∧ Cond.selects k0.1.cls k0.1 k0.1 ∈ fw_U ∧ ci < 9 ∧ ∃ q, vwCl[ci]? = some q ∧ q.1 = k0.1.cls
def fw_ks (k0 : fw_M) (n : Nat) : Prop := fw_kc k0 n ∧ Cond.static k0.1 ∈ fw_U
def fw_ki (k0 : fw_M) (n : Nat) : Prop := fw_kc k0 n ∧ Cond.instanceMethod k0.1 ∈ fw_U ∧ k0.1.name = "<init>"
/-- the callee's room fits the caller's -/
def fw_fit (k k0 : fw_M) : Prop := k0.2.2.2.2.1 + 1 ≤ k.2.2.2.2.1 ∧ 8 + (k0.2.2.1 + 11) + k0.2.2.2.2.2 ≤ k.2.2.2.2.2
theorem fw_go {p : Program} {e : Env} {s : State} {m : MethodId} {args : Array Value} {below : List Frame} {meth : Method} {c : Code} {R : Room} {H : Heap} {locs : List Loc} {Qw : State → Prop} {ls : Array Slot} {st0 rest : List Value} {a : Array Value} {mc0 ms0 : Nat} {T0 : fw_T} {Q0 : Option Value → fw_I → fw_P → Prop}
    (hr : va_Run p l e R s m args below meth c H locs u w mc0 ms0 (F0 m pc ls st0) rest (fw_post g T0 Q0 a) (fw_A g)) (hS : va_S (fw_A g) s.heap H locs)
    (kk : ∀ (v : Option Value) (I1 : fw_I) (P1 : fw_P) (H1 : Heap) (locs1 : List Loc), Q0 v I1 P1 → fw_R g T0 I1 P1 H1 → va_S (fw_A g) s.heap H1 locs1 → W p l e R s m args below meth c H1 locs1 (u + mc0) (w + ms0) Qw (F0 m (pc + 3) ls (v.toList ++ rest))) : W p l e R s m args below meth c H locs u w Qw (F0 m pc ls st0) := by
  intro T1 hT X
  obtain ⟨v, st₀, t, T2, L1, h0, X', hL1, e1, e2, ⟨⟨v2, I1, P1, hv, hQ0, hR1⟩, hz, hk⟩, st1⟩ := hr T1 hT X
  cases hv
  rw [h0] at hz hk
  obtain ⟨t2, a1, b1⟩ := kk v I1 P1 T2.heap (locs ++ L1) hQ0 (by rw [e1]; exact hR1)
    ⟨Nat.le_trans hS.1 (by rw [e1]; exact hz), fun q0 h1 h2 => by rw [e1, hk q0 (Nat.lt_of_lt_of_le h1 hS.1) h2]; exact hS.2.1 q0 h1 h2, fun q0 hq0 => by
      rcases List.mem_append.mp hq0 with h | h
      · exact hS.2.2 q0 h
      · exact hL1 q0 h⟩ T2 rfl X'
  exact ⟨t2, st1 t2 a1, b1⟩
theorem fw_callB {k0 : fw_M} {idx n mc0 ms0 : Nat} {p : Program} {s : State} {m : MethodId} {args : Array Value} {meth : Method} {c : Code} (hC : fw_C g k p s m args meth c) (hk : fw_kc k0 n) (hm : Cond.methodLink k.1.cls idx k0.1 ∈ fw_U) (hf : fw_fit k k0) : CallB (fw_rm k mc ms) s args k.1.cls idx k0.1 k0.2.1 k0.2.2.1 k0.2.2.2.1 (fw_wsk k0) (fw_rm k0 mc0 ms0) mc0 ms0 n :=
  callB_of n hC.1.2.2.2.2 (fw_wsk_good hk.1) rfl rfl rfl (hC.1.2.2.2.2 _ hk.2.1) (hC.1.2.2.2.2 _ hm) ⟨hk.2.2.1, hk.2.2.2.1, hk.2.2.2.2⟩ hf
theorem V_call {k0 : fw_M} {ci n idx a mc0 ms0 : Nat} {As S0 : List Value} {T0 : fw_T} {Q0 : Option Value → fw_I → fw_P → Prop} (hsp : Sp l g k0 T (.ref (g.1 + a) :: As) I P T0 mc0 ms0 Q0) (hk : fw_kv k0 ci n) (hm : Cond.methodLink k.1.cls idx k0.1 ∈ fw_U) (hf : fw_fit k k0) (hT : fw_at T a ci 0) (hn : As.length = n) (hst : S0 = As.reverse ++ .ref (g.1 + a) :: st) (hcs : (st.map fun v => v.category).sum ≤ 8) (hu : u + mc0 ≤ mc) (hw : w + ms0 ≤ ms) (h0 : T0.1 = T.1 + mc0) (hd : decode k.2.1 pc = .ok (.invokevirtual idx, 3)) (hq : pc + 3 = q)
    (kk : ∀ (v : Option Value) (I1 : fw_I) (P1 : fw_P), Q0 v I1 P1 → V l g k T' mc ms Q T0 I1 P1 (u + mc0) (w + ms0) q L (v.toList ++ st)) : V l g k T' mc ms Q T I P u w pc L S0 := by
  subst hq
  intro p e s m args below meth c H locs ls hC hK hR hS hL
  refine fw_sized hC.2 hC.1.2.2.2.2 hS hR (fun hz => ?_)
  obtain ⟨r, hr1, hr2⟩ := hk.2.2.2.2
  have hrec := va_recv (q0 := a) hK.1 hR hr1 (hT.get hk.2.2.2.1 g I P)
  rw [hr2] at hrec
  refine fw_go (va_runV (C := k0.1.cls) (b := g.1 + a) (As := As) (rest := st) hC.1.1 hsp ⟨fw_callB hC.1 hk.1 hm hf, hC.1.1.2.2.2.2 _ hk.2.1, hC.1.1.2.2.2.2 _ hk.2.2.1⟩ ⟨fw_blind _ _ _ _ _, hrec, fun U hU hW => ⟨rfl, ⟨by rw [hU]; exact hz, by rw [hU]; exact hR⟩, hK.warm hW⟩⟩ rfl hn hL.1 hst (by show 2 * (F0 m pc ls S0).monitorRoom + _ ≤ 8; rw [show (F0 m pc ls S0).monitorRoom = 0 from rfl]; simpa using hcs) hd ⟨hu, hw⟩) hS (fun v I1 P1 H1 locs1 hQ0 hR1 hS1 => ?_)
  exact kk v I1 P1 hQ0 p e s m args below meth c H1 locs1 ls ⟨hC.1, by rw [h0]; have := hC.2; omega⟩ hK hR1 hS1 hL
theorem V_callS {k0 : fw_M} {n idx mc0 ms0 : Nat} {As S0 : List Value} {T0 : fw_T} {Q0 : Option Value → fw_I → fw_P → Prop} (hsp : Sp l g k0 T As I P T0 mc0 ms0 Q0) (hk : fw_ks k0 n) (hm : Cond.methodLink k.1.cls idx k0.1 ∈ fw_U) (hf : fw_fit k k0) (hn : As.length = n) (hst : S0 = As.reverse ++ st) (hcs : (st.map fun v => v.category).sum ≤ 8) (hu : u + mc0 ≤ mc) (hw : w + ms0 ≤ ms) (h0 : T0.1 = T.1 + mc0) (hd : decode k.2.1 pc = .ok (.invokestatic idx, 3)) (hq : pc + 3 = q)
    (kk : ∀ (v : Option Value) (I1 : fw_I) (P1 : fw_P), Q0 v I1 P1 → V l g k T' mc ms Q T0 I1 P1 (u + mc0) (w + ms0) q L (v.toList ++ st)) : V l g k T' mc ms Q T I P u w pc L S0 := by
  subst hq
  intro p e s m args below meth c H locs ls hC hK hR hS hL
  refine fw_sized hC.2 hC.1.2.2.2.2 hS hR (fun hz => ?_)
  refine fw_go (va_runS (As := As) (rest := st) hC.1.1 hsp ⟨fw_callB hC.1 hk.1 hm hf, hC.1.1.2.2.2.2 _ hk.2⟩ ⟨fw_blind _ _ _ _ _, fun U hU hW => ⟨rfl, ⟨by rw [hU]; exact hz, by rw [hU]; exact hR⟩, hK.warm hW⟩⟩ rfl hn hL.1 hst (by show 2 * (F0 m pc ls S0).monitorRoom + _ ≤ 8; rw [show (F0 m pc ls S0).monitorRoom = 0 from rfl]; simpa using hcs) hd ⟨hu, hw⟩) hS (fun v I1 P1 H1 locs1 hQ0 hR1 hS1 => ?_)
  exact kk v I1 P1 hQ0 p e s m args below meth c H1 locs1 ls ⟨hC.1, by rw [h0]; have := hC.2; omega⟩ hK hR1 hS1 hL
theorem V_callSN {k0 : fw_M} {n idx mc0 ms0 : Nat} {host : String} {As S0 : List Value} {T0 : fw_T} {Q0 : Option Value → fw_I → fw_P → Prop} (hsp : Sp l g k0 T As I P T0 mc0 ms0 Q0) (hk : fw_ks k0 n) (hm : (k.1.cls, idx, k0.1, host) ∈ fw_nests) (hf : fw_fit k k0) (hn : As.length = n) (hst : S0 = As.reverse ++ st) (hcs : (st.map fun v => v.category).sum ≤ 8) (hu : u + mc0 ≤ mc) (hw : w + ms0 ≤ ms) (h0 : T0.1 = T.1 + mc0) (hd : decode k.2.1 pc = .ok (.invokestatic idx, 3)) (hq : pc + 3 = q)
    (kk : ∀ (v : Option Value) (I1 : fw_I) (P1 : fw_P), Q0 v I1 P1 → V l g k T' mc ms Q T0 I1 P1 (u + mc0) (w + ms0) q L (v.toList ++ st)) : V l g k T' mc ms Q T I P u w pc L S0 := by
  subst hq
  intro p e s m args below meth c H locs ls hC hK hR hS hL
  refine fw_sized hC.2 hC.1.2.2.2.2 hS hR (fun hz => ?_)
  refine fw_go (va_runSN (As := As) (rest := st) hC.1.1 hsp ⟨va_cnB n hC.1.1.2.2.2.2 (fw_wsk_good hk.1.1) rfl rfl rfl (hK.2 _ hm) (hC.1.1.2.2.2.2 _ hk.1.2.1) ⟨hk.1.2.2.1, hk.1.2.2.2.1, hk.1.2.2.2.2⟩ hf, hC.1.1.2.2.2.2 _ hk.2, trivial⟩ ⟨fw_blind _ _ _ _ _, fun U hU hW => ⟨rfl, ⟨by rw [hU]; exact hz, by rw [hU]; exact hR⟩, hK.warm hW⟩⟩ rfl hn hL.1 hst (by show 2 * (F0 m pc ls S0).monitorRoom + _ ≤ 8; rw [show (F0 m pc ls S0).monitorRoom = 0 from rfl]; simpa using hcs) hd ⟨hu, hw⟩) hS (fun v I1 P1 H1 locs1 hQ0 hR1 hS1 => ?_)
  exact kk v I1 P1 hQ0 p e s m args below meth c H1 locs1 ls ⟨hC.1, by rw [h0]; have := hC.2; omega⟩ hK hR1 hS1 hL
theorem V_callI {k0 : fw_M} {n idx b mc0 ms0 : Nat} {As S0 : List Value} {T0 : fw_T} {Q0 : Option Value → fw_I → fw_P → Prop} (hsp : Sp l g k0 T (.ref b :: As) I P T0 mc0 ms0 Q0) (hk : fw_ki k0 n) (hret : k0.2.2.2.1 = none) (hm : Cond.methodLink k.1.cls idx k0.1 ∈ fw_U) (hf : fw_fit k k0) (hn : As.length = n) (hst : S0 = As.reverse ++ .ref b :: st) (hcs : (st.map fun v => v.category).sum ≤ 8) (hu : u + mc0 ≤ mc) (hw : w + ms0 ≤ ms) (h0 : T0.1 = T.1 + mc0) (hd : decode k.2.1 pc = .ok (.invokespecial idx, 3)) (hq : pc + 3 = q)
    (kk : ∀ (v : Option Value) (I1 : fw_I) (P1 : fw_P), Q0 v I1 P1 → V l g k T' mc ms Q T0 I1 P1 (u + mc0) (w + ms0) q L (v.toList ++ st)) : V l g k T' mc ms Q T I P u w pc L S0 := by
  subst hq
  intro p e s m args below meth c H locs ls hC hK hR hS hL
  refine fw_sized hC.2 hC.1.2.2.2.2 hS hR (fun hz => ?_)
  have hcb := fw_callB (mc := mc) (ms := ms) (mc0 := mc0) (ms0 := ms0) hC.1 hk.1 hm hf
  rw [hret] at hcb
  refine fw_go (va_runI (b := b) (As := As) (rest := st) hC.1.1 hsp ⟨hcb, hk.2.2, hC.1.1.2.2.2.2 _ hk.2.1⟩ ⟨fw_blind _ _ _ _ _, fun U hU hW => ⟨rfl, ⟨by rw [hU]; exact hz, by rw [hU]; exact hR⟩, hK.warm hW⟩⟩ rfl hn hL.1 hst (by show 2 * (F0 m pc ls S0).monitorRoom + _ ≤ 8; rw [show (F0 m pc ls S0).monitorRoom = 0 from rfl]; simpa using hcs) hd ⟨hu, hw⟩) hS (fun v I1 P1 H1 locs1 hQ0 hR1 hS1 => ?_)
  exact kk v I1 P1 hQ0 p e s m args below meth c H1 locs1 ls ⟨hC.1, by rw [h0]; have := hC.2; omega⟩ hK hR1 hS1 hL
theorem V_callIN {k0 : fw_M} {n idx b mc0 ms0 : Nat} {host : String} {As S0 : List Value} {T0 : fw_T} {Q0 : Option Value → fw_I → fw_P → Prop} (hsp : Sp l g k0 T (.ref b :: As) I P T0 mc0 ms0 Q0) (hk : fw_ki k0 n) (hret : k0.2.2.2.1 = none) (hm : (k.1.cls, idx, k0.1, host) ∈ fw_nests) (hf : fw_fit k k0) (hn : As.length = n) (hst : S0 = As.reverse ++ .ref b :: st) (hcs : (st.map fun v => v.category).sum ≤ 8) (hu : u + mc0 ≤ mc) (hw : w + ms0 ≤ ms) (h0 : T0.1 = T.1 + mc0) (hd : decode k.2.1 pc = .ok (.invokespecial idx, 3)) (hq : pc + 3 = q)
    (kk : ∀ (v : Option Value) (I1 : fw_I) (P1 : fw_P), Q0 v I1 P1 → V l g k T' mc ms Q T0 I1 P1 (u + mc0) (w + ms0) q L (v.toList ++ st)) : V l g k T' mc ms Q T I P u w pc L S0 := by
  subst hq
  intro p e s m args below meth c H locs ls hC hK hR hS hL
  refine fw_sized hC.2 hC.1.2.2.2.2 hS hR (fun hz => ?_)
  have hcb := va_cnB (R := fw_rm k mc ms) (rm := fw_rm k0 mc0 ms0) (mc := mc0) (ms := ms0) n hC.1.1.2.2.2.2 (fw_wsk_good hk.1.1) rfl rfl rfl (hK.2 _ hm) (hC.1.1.2.2.2.2 _ hk.1.2.1) ⟨hk.1.2.2.1, hk.1.2.2.2.1, hk.1.2.2.2.2⟩ hf
  rw [hret] at hcb
  refine fw_go (va_runIN (b := b) (As := As) (rest := st) hC.1.1 hsp ⟨hcb, hk.2.2, hC.1.1.2.2.2.2 _ hk.2.1⟩ ⟨fw_blind _ _ _ _ _, fun U hU hW => ⟨rfl, ⟨by rw [hU]; exact hz, by rw [hU]; exact hR⟩, hK.warm hW⟩⟩ rfl hn hL.1 hst (by show 2 * (F0 m pc ls S0).monitorRoom + _ ≤ 8; rw [show (F0 m pc ls S0).monitorRoom = 0 from rfl]; simpa using hcs) hd ⟨hu, hw⟩) hS (fun v I1 P1 H1 locs1 hQ0 hR1 hS1 => ?_)
  exact kk v I1 P1 hQ0 p e s m args below meth c H1 locs1 ls ⟨hC.1, by rw [h0]; have := hC.2; omega⟩ hK hR1 hS1 hL

end FWR
end
