section
-- ===== PART A: goes FIRST, ahead of the names: the tables' words, and 'selects' of the private methods out of them =====
/-- a private method of a class that the tables say can be made, by its rows of tables_1 -/
def lw_okq (q : MethodName × Nat) : Prop := (q.1.cls ≠ "java/lang/invoke/MethodHandle" ∧ q.1.cls ≠ "java/lang/invoke/VarHandle") ∧ Cond.instantiable q.1.cls q.2 ∈ tables_1 ∧ Cond.privateMethod q.1 ∈ tables_1 ∧ Cond.instanceMethod q.1 ∈ tables_1
theorem lw_p0 : lw_okq (⟨"SnakeTrades$Past", "dropOldest", "()V"⟩, 2) := ⟨⟨by decide +kernel, by decide +kernel⟩, List.mem_of_getElem? (i := 157) (by decide +kernel), List.mem_of_getElem? (i := 259) (by decide +kernel), List.mem_of_getElem? (i := 260) (by decide +kernel)⟩
theorem lw_p1 : lw_okq (⟨"SnakeTrades$Past", "stateAt", "(I)LSnakeTrades$Race;"⟩, 2) := ⟨⟨by decide +kernel, by decide +kernel⟩, List.mem_of_getElem? (i := 157) (by decide +kernel), List.mem_of_getElem? (i := 263) (by decide +kernel), List.mem_of_getElem? (i := 264) (by decide +kernel)⟩
theorem lw_p2 : lw_okq (⟨"SnakeTrades$Race", "biteWith", "(LSnakeTrades$Snake;LSnakeTrades$Piece;I)V"⟩, 10) := ⟨⟨by decide +kernel, by decide +kernel⟩, List.mem_of_getElem? (i := 19) (by decide +kernel), List.mem_of_getElem? (i := 341) (by decide +kernel), List.mem_of_getElem? (i := 342) (by decide +kernel)⟩
theorem lw_p3 : lw_okq (⟨"SnakeTrades$Race", "shortenSleeps", "()V"⟩, 10) := ⟨⟨by decide +kernel, by decide +kernel⟩, List.mem_of_getElem? (i := 19) (by decide +kernel), List.mem_of_getElem? (i := 357) (by decide +kernel), List.mem_of_getElem? (i := 358) (by decide +kernel)⟩
theorem lw_p4 : lw_okq (⟨"SnakeTrades$Race", "moverAfter", "(I)I"⟩, 10) := ⟨⟨by decide +kernel, by decide +kernel⟩, List.mem_of_getElem? (i := 19) (by decide +kernel), List.mem_of_getElem? (i := 361) (by decide +kernel), List.mem_of_getElem? (i := 362) (by decide +kernel)⟩
theorem lw_p5 : lw_okq (⟨"SnakeTrades$Script", "signAt", "(I)I"⟩, 2) := ⟨⟨by decide +kernel, by decide +kernel⟩, List.mem_of_getElem? (i := 174) (by decide +kernel), List.mem_of_getElem? (i := 457) (by decide +kernel), List.mem_of_getElem? (i := 458) (by decide +kernel)⟩
theorem lw_p6 : lw_okq (⟨"SnakeTrades$Script", "tradeFrom", "(LSnakeTrades$Race;II)I"⟩, 2) := ⟨⟨by decide +kernel, by decide +kernel⟩, List.mem_of_getElem? (i := 174) (by decide +kernel), List.mem_of_getElem? (i := 476) (by decide +kernel), List.mem_of_getElem? (i := 477) (by decide +kernel)⟩
theorem lw_p7 : lw_okq (⟨"SnakeTrades$Search", "start", "(I)V"⟩, 3) := ⟨⟨by decide +kernel, by decide +kernel⟩, List.mem_of_getElem? (i := 189) (by decide +kernel), List.mem_of_getElem? (i := 567) (by decide +kernel), List.mem_of_getElem? (i := 568) (by decide +kernel)⟩
theorem lw_p8 : lw_okq (⟨"SnakeTrades$Search", "see", "(II)V"⟩, 3) := ⟨⟨by decide +kernel, by decide +kernel⟩, List.mem_of_getElem? (i := 189) (by decide +kernel), List.mem_of_getElem? (i := 571) (by decide +kernel), List.mem_of_getElem? (i := 572) (by decide +kernel)⟩
theorem lw_p9 : lw_okq (⟨"SnakeTrades$Search", "throwsAt", "(I)I"⟩, 3) := ⟨⟨by decide +kernel, by decide +kernel⟩, List.mem_of_getElem? (i := 189) (by decide +kernel), List.mem_of_getElem? (i := 575) (by decide +kernel), List.mem_of_getElem? (i := 576) (by decide +kernel)⟩
theorem lw_p10 : lw_okq (⟨"SnakeTrades$Search", "seeLandingsThatLeadTo", "(ILSnakeTrades$Race;)V"⟩, 3) := ⟨⟨by decide +kernel, by decide +kernel⟩, List.mem_of_getElem? (i := 189) (by decide +kernel), List.mem_of_getElem? (i := 588) (by decide +kernel), List.mem_of_getElem? (i := 589) (by decide +kernel)⟩
theorem lw_p11 : lw_okq (⟨"SnakeTrades$Search", "seeSquaresBefore", "(II)V"⟩, 3) := ⟨⟨by decide +kernel, by decide +kernel⟩, List.mem_of_getElem? (i := 189) (by decide +kernel), List.mem_of_getElem? (i := 593) (by decide +kernel), List.mem_of_getElem? (i := 594) (by decide +kernel)⟩
theorem lw_p12 : lw_okq (⟨"SnakeTradesModel", "snakeAt", "(I)I"⟩, 14) := ⟨⟨by decide +kernel, by decide +kernel⟩, List.mem_of_getElem? (i := 607) (by decide +kernel), List.mem_of_getElem? (i := 664) (by decide +kernel), List.mem_of_getElem? (i := 665) (by decide +kernel)⟩
theorem lw_p13 : lw_okq (⟨"SnakeTradesModel", "ofSnake", "(II)I"⟩, 14) := ⟨⟨by decide +kernel, by decide +kernel⟩, List.mem_of_getElem? (i := 607) (by decide +kernel), List.mem_of_getElem? (i := 668) (by decide +kernel), List.mem_of_getElem? (i := 669) (by decide +kernel)⟩
theorem lw_p14 : lw_okq (⟨"SnakeTradesModel", "snakes", "()I"⟩, 14) := ⟨⟨by decide +kernel, by decide +kernel⟩, List.mem_of_getElem? (i := 607) (by decide +kernel), List.mem_of_getElem? (i := 672) (by decide +kernel), List.mem_of_getElem? (i := 673) (by decide +kernel)⟩
theorem lw_p15 : lw_okq (⟨"SnakeTradesModel", "record", "()V"⟩, 14) := ⟨⟨by decide +kernel, by decide +kernel⟩, List.mem_of_getElem? (i := 607) (by decide +kernel), List.mem_of_getElem? (i := 676) (by decide +kernel), List.mem_of_getElem? (i := 677) (by decide +kernel)⟩
def lw_privs_1 : List (MethodName × Nat) := [(⟨"SnakeTrades$Past", "dropOldest", "()V"⟩, 2), (⟨"SnakeTrades$Past", "stateAt", "(I)LSnakeTrades$Race;"⟩, 2), (⟨"SnakeTrades$Race", "biteWith", "(LSnakeTrades$Snake;LSnakeTrades$Piece;I)V"⟩, 10), (⟨"SnakeTrades$Race", "shortenSleeps", "()V"⟩, 10), (⟨"SnakeTrades$Race", "moverAfter", "(I)I"⟩, 10), (⟨"SnakeTrades$Script", "signAt", "(I)I"⟩, 2), (⟨"SnakeTrades$Script", "tradeFrom", "(LSnakeTrades$Race;II)I"⟩, 2), (⟨"SnakeTrades$Search", "start", "(I)V"⟩, 3), (⟨"SnakeTrades$Search", "see", "(II)V"⟩, 3), (⟨"SnakeTrades$Search", "throwsAt", "(I)I"⟩, 3), (⟨"SnakeTrades$Search", "seeLandingsThatLeadTo", "(ILSnakeTrades$Race;)V"⟩, 3), (⟨"SnakeTrades$Search", "seeSquaresBefore", "(II)V"⟩, 3), (⟨"SnakeTradesModel", "snakeAt", "(I)I"⟩, 14), (⟨"SnakeTradesModel", "ofSnake", "(II)I"⟩, 14), (⟨"SnakeTradesModel", "snakes", "()I"⟩, 14), (⟨"SnakeTradesModel", "record", "()V"⟩, 14)]
theorem lw_r1 : ∀ q ∈ lw_privs_1, lw_okq q := List.forall_mem_cons.mpr ⟨lw_p0, List.forall_mem_cons.mpr ⟨lw_p1, List.forall_mem_cons.mpr ⟨lw_p2, List.forall_mem_cons.mpr ⟨lw_p3, List.forall_mem_cons.mpr ⟨lw_p4, List.forall_mem_cons.mpr ⟨lw_p5, List.forall_mem_cons.mpr ⟨lw_p6, List.forall_mem_cons.mpr ⟨lw_p7, List.forall_mem_cons.mpr ⟨lw_p8, List.forall_mem_cons.mpr ⟨lw_p9, List.forall_mem_cons.mpr ⟨lw_p10, List.forall_mem_cons.mpr ⟨lw_p11, List.forall_mem_cons.mpr ⟨lw_p12, List.forall_mem_cons.mpr ⟨lw_p13, List.forall_mem_cons.mpr ⟨lw_p14, List.forall_mem_cons.mpr ⟨lw_p15, fun _ h => absurd h List.not_mem_nil⟩⟩⟩⟩⟩⟩⟩⟩⟩⟩⟩⟩⟩⟩⟩⟩
theorem lw_p16 : lw_okq (⟨"SnakeTradesModel", "isSnake", "(I)Z"⟩, 14) := ⟨⟨by decide +kernel, by decide +kernel⟩, List.mem_of_getElem? (i := 607) (by decide +kernel), List.mem_of_getElem? (i := 683) (by decide +kernel), List.mem_of_getElem? (i := 684) (by decide +kernel)⟩
theorem lw_p17 : lw_okq (⟨"SnakeTradesModel", "turnError", "(I)I"⟩, 14) := ⟨⟨by decide +kernel, by decide +kernel⟩, List.mem_of_getElem? (i := 607) (by decide +kernel), List.mem_of_getElem? (i := 695) (by decide +kernel), List.mem_of_getElem? (i := 696) (by decide +kernel)⟩
theorem lw_p18 : lw_okq (⟨"SnakeTradesModel", "isOver", "()Z"⟩, 14) := ⟨⟨by decide +kernel, by decide +kernel⟩, List.mem_of_getElem? (i := 607) (by decide +kernel), List.mem_of_getElem? (i := 699) (by decide +kernel), List.mem_of_getElem? (i := 700) (by decide +kernel)⟩
theorem lw_p19 : lw_okq (⟨"SnakeTradesModel", "doTurn", "(I)I"⟩, 14) := ⟨⟨by decide +kernel, by decide +kernel⟩, List.mem_of_getElem? (i := 607) (by decide +kernel), List.mem_of_getElem? (i := 703) (by decide +kernel), List.mem_of_getElem? (i := 704) (by decide +kernel)⟩
theorem lw_p20 : lw_okq (⟨"SnakeTradesModel", "beginsAt", "(I)I"⟩, 14) := ⟨⟨by decide +kernel, by decide +kernel⟩, List.mem_of_getElem? (i := 607) (by decide +kernel), List.mem_of_getElem? (i := 707) (by decide +kernel), List.mem_of_getElem? (i := 708) (by decide +kernel)⟩
theorem lw_p21 : lw_okq (⟨"SnakeTradesModel", "of", "(II)I"⟩, 14) := ⟨⟨by decide +kernel, by decide +kernel⟩, List.mem_of_getElem? (i := 607) (by decide +kernel), List.mem_of_getElem? (i := 711) (by decide +kernel), List.mem_of_getElem? (i := 712) (by decide +kernel)⟩
theorem lw_p22 : lw_okq (⟨"SnakeTradesModel", "hurts", "(I)I"⟩, 14) := ⟨⟨by decide +kernel, by decide +kernel⟩, List.mem_of_getElem? (i := 607) (by decide +kernel), List.mem_of_getElem? (i := 715) (by decide +kernel), List.mem_of_getElem? (i := 716) (by decide +kernel)⟩
theorem lw_p23 : lw_okq (⟨"SnakeTradesModel", "add", "(III)V"⟩, 14) := ⟨⟨by decide +kernel, by decide +kernel⟩, List.mem_of_getElem? (i := 607) (by decide +kernel), List.mem_of_getElem? (i := 722) (by decide +kernel), List.mem_of_getElem? (i := 723) (by decide +kernel)⟩
theorem lw_p24 : lw_okq (⟨"SnakeTradesModel", "bites", "(II)Z"⟩, 14) := ⟨⟨by decide +kernel, by decide +kernel⟩, List.mem_of_getElem? (i := 607) (by decide +kernel), List.mem_of_getElem? (i := 729) (by decide +kernel), List.mem_of_getElem? (i := 730) (by decide +kernel)⟩
theorem lw_p25 : lw_okq (⟨"SnakeTradesModel", "piecesAt", "(I)I"⟩, 14) := ⟨⟨by decide +kernel, by decide +kernel⟩, List.mem_of_getElem? (i := 607) (by decide +kernel), List.mem_of_getElem? (i := 733) (by decide +kernel), List.mem_of_getElem? (i := 734) (by decide +kernel)⟩
theorem lw_p26 : lw_okq (⟨"SnakeTradesModel", "beBitten", "(II)V"⟩, 14) := ⟨⟨by decide +kernel, by decide +kernel⟩, List.mem_of_getElem? (i := 607) (by decide +kernel), List.mem_of_getElem? (i := 737) (by decide +kernel), List.mem_of_getElem? (i := 738) (by decide +kernel)⟩
theorem lw_p27 : lw_okq (⟨"SnakeTradesModel", "getBite", "(II)V"⟩, 14) := ⟨⟨by decide +kernel, by decide +kernel⟩, List.mem_of_getElem? (i := 607) (by decide +kernel), List.mem_of_getElem? (i := 741) (by decide +kernel), List.mem_of_getElem? (i := 742) (by decide +kernel)⟩
theorem lw_p28 : lw_okq (⟨"SnakeTradesModel", "isIn", "(I)Z"⟩, 14) := ⟨⟨by decide +kernel, by decide +kernel⟩, List.mem_of_getElem? (i := 607) (by decide +kernel), List.mem_of_getElem? (i := 745) (by decide +kernel), List.mem_of_getElem? (i := 746) (by decide +kernel)⟩
theorem lw_p29 : lw_okq (⟨"SnakeTradesModel", "sellError", "(IIII)I"⟩, 14) := ⟨⟨by decide +kernel, by decide +kernel⟩, List.mem_of_getElem? (i := 607) (by decide +kernel), List.mem_of_getElem? (i := 765) (by decide +kernel), List.mem_of_getElem? (i := 766) (by decide +kernel)⟩
theorem lw_p30 : lw_okq (⟨"SnakeTradesModel", "isBite", "(II)Z"⟩, 14) := ⟨⟨by decide +kernel, by decide +kernel⟩, List.mem_of_getElem? (i := 607) (by decide +kernel), List.mem_of_getElem? (i := 769) (by decide +kernel), List.mem_of_getElem? (i := 770) (by decide +kernel)⟩
theorem lw_p31 : lw_okq (⟨"SnakeTradesModel", "reason", "(IIII)I"⟩, 14) := ⟨⟨by decide +kernel, by decide +kernel⟩, List.mem_of_getElem? (i := 607) (by decide +kernel), List.mem_of_getElem? (i := 776) (by decide +kernel), List.mem_of_getElem? (i := 777) (by decide +kernel)⟩
def lw_privs_2 : List (MethodName × Nat) := [(⟨"SnakeTradesModel", "isSnake", "(I)Z"⟩, 14), (⟨"SnakeTradesModel", "turnError", "(I)I"⟩, 14), (⟨"SnakeTradesModel", "isOver", "()Z"⟩, 14), (⟨"SnakeTradesModel", "doTurn", "(I)I"⟩, 14), (⟨"SnakeTradesModel", "beginsAt", "(I)I"⟩, 14), (⟨"SnakeTradesModel", "of", "(II)I"⟩, 14), (⟨"SnakeTradesModel", "hurts", "(I)I"⟩, 14), (⟨"SnakeTradesModel", "add", "(III)V"⟩, 14), (⟨"SnakeTradesModel", "bites", "(II)Z"⟩, 14), (⟨"SnakeTradesModel", "piecesAt", "(I)I"⟩, 14), (⟨"SnakeTradesModel", "beBitten", "(II)V"⟩, 14), (⟨"SnakeTradesModel", "getBite", "(II)V"⟩, 14), (⟨"SnakeTradesModel", "isIn", "(I)Z"⟩, 14), (⟨"SnakeTradesModel", "sellError", "(IIII)I"⟩, 14), (⟨"SnakeTradesModel", "isBite", "(II)Z"⟩, 14), (⟨"SnakeTradesModel", "reason", "(IIII)I"⟩, 14)]
theorem lw_r2 : ∀ q ∈ lw_privs_2, lw_okq q := List.forall_mem_cons.mpr ⟨lw_p16, List.forall_mem_cons.mpr ⟨lw_p17, List.forall_mem_cons.mpr ⟨lw_p18, List.forall_mem_cons.mpr ⟨lw_p19, List.forall_mem_cons.mpr ⟨lw_p20, List.forall_mem_cons.mpr ⟨lw_p21, List.forall_mem_cons.mpr ⟨lw_p22, List.forall_mem_cons.mpr ⟨lw_p23, List.forall_mem_cons.mpr ⟨lw_p24, List.forall_mem_cons.mpr ⟨lw_p25, List.forall_mem_cons.mpr ⟨lw_p26, List.forall_mem_cons.mpr ⟨lw_p27, List.forall_mem_cons.mpr ⟨lw_p28, List.forall_mem_cons.mpr ⟨lw_p29, List.forall_mem_cons.mpr ⟨lw_p30, List.forall_mem_cons.mpr ⟨lw_p31, fun _ h => absurd h List.not_mem_nil⟩⟩⟩⟩⟩⟩⟩⟩⟩⟩⟩⟩⟩⟩⟩⟩
theorem lw_p32 : lw_okq (⟨"SnakeTradesModel", "asks", "(II)I"⟩, 14) := ⟨⟨by decide +kernel, by decide +kernel⟩, List.mem_of_getElem? (i := 607) (by decide +kernel), List.mem_of_getElem? (i := 780) (by decide +kernel), List.mem_of_getElem? (i := 781) (by decide +kernel)⟩
theorem lw_p33 : lw_okq (⟨"SnakeTradesModel", "doSell", "(IIII)I"⟩, 14) := ⟨⟨by decide +kernel, by decide +kernel⟩, List.mem_of_getElem? (i := 607) (by decide +kernel), List.mem_of_getElem? (i := 784) (by decide +kernel), List.mem_of_getElem? (i := 785) (by decide +kernel)⟩
theorem lw_p34 : lw_okq (⟨"SnakeTradesModel", "readText", "(Z)Z"⟩, 14) := ⟨⟨by decide +kernel, by decide +kernel⟩, List.mem_of_getElem? (i := 607) (by decide +kernel), List.mem_of_getElem? (i := 804) (by decide +kernel), List.mem_of_getElem? (i := 805) (by decide +kernel)⟩
theorem lw_p35 : lw_okq (⟨"SnakeTradesModel", "readOrder", "()Z"⟩, 14) := ⟨⟨by decide +kernel, by decide +kernel⟩, List.mem_of_getElem? (i := 607) (by decide +kernel), List.mem_of_getElem? (i := 808) (by decide +kernel), List.mem_of_getElem? (i := 809) (by decide +kernel)⟩
theorem lw_p36 : lw_okq (⟨"SnakeTradesModel", "isNext", "(II)Z"⟩, 14) := ⟨⟨by decide +kernel, by decide +kernel⟩, List.mem_of_getElem? (i := 607) (by decide +kernel), List.mem_of_getElem? (i := 812) (by decide +kernel), List.mem_of_getElem? (i := 813) (by decide +kernel)⟩
theorem lw_p37 : lw_okq (⟨"SnakeTradesModel", "takes", "(I)Z"⟩, 14) := ⟨⟨by decide +kernel, by decide +kernel⟩, List.mem_of_getElem? (i := 607) (by decide +kernel), List.mem_of_getElem? (i := 816) (by decide +kernel), List.mem_of_getElem? (i := 817) (by decide +kernel)⟩
theorem lw_p38 : lw_okq (⟨"SnakeTradesModel", "take", "(III)Z"⟩, 14) := ⟨⟨by decide +kernel, by decide +kernel⟩, List.mem_of_getElem? (i := 607) (by decide +kernel), List.mem_of_getElem? (i := 820) (by decide +kernel), List.mem_of_getElem? (i := 821) (by decide +kernel)⟩
theorem lw_p39 : lw_okq (⟨"SnakeTradesModel", "readCoins", "()Z"⟩, 14) := ⟨⟨by decide +kernel, by decide +kernel⟩, List.mem_of_getElem? (i := 607) (by decide +kernel), List.mem_of_getElem? (i := 824) (by decide +kernel), List.mem_of_getElem? (i := 825) (by decide +kernel)⟩
theorem lw_p40 : lw_okq (⟨"SnakeTradesModel", "does", "()Z"⟩, 14) := ⟨⟨by decide +kernel, by decide +kernel⟩, List.mem_of_getElem? (i := 607) (by decide +kernel), List.mem_of_getElem? (i := 828) (by decide +kernel), List.mem_of_getElem? (i := 829) (by decide +kernel)⟩
theorem lw_p41 : lw_okq (⟨"SnakeTradesModel", "tailsAt", "(I)I"⟩, 14) := ⟨⟨by decide +kernel, by decide +kernel⟩, List.mem_of_getElem? (i := 607) (by decide +kernel), List.mem_of_getElem? (i := 864) (by decide +kernel), List.mem_of_getElem? (i := 865) (by decide +kernel)⟩
theorem lw_p42 : lw_okq (⟨"SnakeTradesModel", "sumOf", "(I)I"⟩, 14) := ⟨⟨by decide +kernel, by decide +kernel⟩, List.mem_of_getElem? (i := 607) (by decide +kernel), List.mem_of_getElem? (i := 872) (by decide +kernel), List.mem_of_getElem? (i := 873) (by decide +kernel)⟩
theorem lw_p43 : lw_okq (⟨"SnakeTradesModel", "throwsHome", "()Z"⟩, 14) := ⟨⟨by decide +kernel, by decide +kernel⟩, List.mem_of_getElem? (i := 607) (by decide +kernel), List.mem_of_getElem? (i := 892) (by decide +kernel), List.mem_of_getElem? (i := 893) (by decide +kernel)⟩
def lw_privs_3 : List (MethodName × Nat) := [(⟨"SnakeTradesModel", "asks", "(II)I"⟩, 14), (⟨"SnakeTradesModel", "doSell", "(IIII)I"⟩, 14), (⟨"SnakeTradesModel", "readText", "(Z)Z"⟩, 14), (⟨"SnakeTradesModel", "readOrder", "()Z"⟩, 14), (⟨"SnakeTradesModel", "isNext", "(II)Z"⟩, 14), (⟨"SnakeTradesModel", "takes", "(I)Z"⟩, 14), (⟨"SnakeTradesModel", "take", "(III)Z"⟩, 14), (⟨"SnakeTradesModel", "readCoins", "()Z"⟩, 14), (⟨"SnakeTradesModel", "does", "()Z"⟩, 14), (⟨"SnakeTradesModel", "tailsAt", "(I)I"⟩, 14), (⟨"SnakeTradesModel", "sumOf", "(I)I"⟩, 14), (⟨"SnakeTradesModel", "throwsHome", "()Z"⟩, 14)]
theorem lw_r3 : ∀ q ∈ lw_privs_3, lw_okq q := List.forall_mem_cons.mpr ⟨lw_p32, List.forall_mem_cons.mpr ⟨lw_p33, List.forall_mem_cons.mpr ⟨lw_p34, List.forall_mem_cons.mpr ⟨lw_p35, List.forall_mem_cons.mpr ⟨lw_p36, List.forall_mem_cons.mpr ⟨lw_p37, List.forall_mem_cons.mpr ⟨lw_p38, List.forall_mem_cons.mpr ⟨lw_p39, List.forall_mem_cons.mpr ⟨lw_p40, List.forall_mem_cons.mpr ⟨lw_p41, List.forall_mem_cons.mpr ⟨lw_p42, List.forall_mem_cons.mpr ⟨lw_p43, fun _ h => absurd h List.not_mem_nil⟩⟩⟩⟩⟩⟩⟩⟩⟩⟩⟩⟩
def lw_privs : List (MethodName × Nat) := lw_privs_1 ++ (lw_privs_2 ++ (lw_privs_3))
def lw_tbl : List Cond := k2_sels lw_privs ++ tables_1
theorem lw_privs_ok : ∀ q ∈ lw_privs, lw_okq q := by
  show ∀ q ∈ lw_privs_1 ++ (lw_privs_2 ++ (lw_privs_3)), lw_okq q
  exact List.forall_mem_append.mpr ⟨lw_r1, List.forall_mem_append.mpr ⟨lw_r2, lw_r3⟩⟩
/-- the streams that the claim lets the run draw from -/
abbrev lw_cs : List Choice := [Jvm.Choice.named "NaN.bits"]
theorem lw_bits : nanBits ∈ lw_cs := by first | decide | exact List.mem_cons_self | simp [lw_cs, nanBits]
def RX0 : String := "SnakeTrades$Bite"
def TX0 : u_T := fun k => match k with
  | 0 => ("SnakeTrades$Bite", "size", "I", false)
  | 1 => ("SnakeTrades$Bite", "timesSold", "I", false)
  | 2 => ("SnakeTrades$Bite", "bitten", "I", false)
  | _ => ("SnakeTrades$Bite", "holders", "I", false)
def tyX0 : Nat → FieldType := fun k => match k with
  | 0 => .int
  | 1 => .int
  | 2 => .int
  | _ => .int
theorem nmX0 : ∀ a, a < 4 → ∀ b, b < 4 → a ≠ b → (TX0 a).2.1 ≠ (TX0 b).2.1 := by decide +kernel
theorem tyX0_ok : ∀ k, k < 4 → parseFieldDescriptor (TX0 k).2.2.1 = some (tyX0 k) := by decide +kernel
abbrev cX0_init : ByteArray := prog_2_method_1_code
def yX0_init : MethodName := ⟨RX0, "<init>", "()V"⟩
abbrev cX0_begin : ByteArray := prog_2_method_2_code
def yX0_begin : MethodName := ⟨RX0, "begin", "(II)V"⟩
abbrev cX0_copyFrom : ByteArray := prog_2_method_3_code
def yX0_copyFrom : MethodName := ⟨RX0, "copyFrom", "(LSnakeTrades$Bite;)V"⟩
abbrev cX0_passTo : ByteArray := prog_2_method_4_code
def yX0_passTo : MethodName := ⟨RX0, "passTo", "(I)V"⟩
abbrev cX0_wasHeldBy : ByteArray := prog_2_method_5_code
def yX0_wasHeldBy : MethodName := ⟨RX0, "wasHeldBy", "(I)Z"⟩
def RX1 : String := "SnakeTrades$Past"
def TX1 : u_T := fun k => match k with
  | 0 => ("SnakeTrades$Past", "states", "[LSnakeTrades$Race;", true)
  | _ => ("SnakeTrades$Past", "held", "I", false)
def tyX1 : Nat → FieldType := fun k => match k with
  | 0 => .array (.object "SnakeTrades$Race")
  | _ => .int
theorem nmX1 : ∀ a, a < 2 → ∀ b, b < 2 → a ≠ b → (TX1 a).2.1 ≠ (TX1 b).2.1 := by decide +kernel
theorem tyX1_ok : ∀ k, k < 2 → parseFieldDescriptor (TX1 k).2.2.1 = some (tyX1 k) := by decide +kernel
abbrev cX1_init : ByteArray := prog_3_method_1_code
def yX1_init : MethodName := ⟨RX1, "<init>", "()V"⟩
abbrev cX1_stateAt : ByteArray := prog_3_method_2_code
def yX1_stateAt : MethodName := ⟨RX1, "stateAt", "(I)LSnakeTrades$Race;"⟩
abbrev cX1_remember : ByteArray := prog_3_method_3_code
def yX1_remember : MethodName := ⟨RX1, "remember", "(LSnakeTrades$Race;)V"⟩
abbrev cX1_bringBack : ByteArray := prog_3_method_4_code
def yX1_bringBack : MethodName := ⟨RX1, "bringBack", "(LSnakeTrades$Race;)I"⟩
abbrev cX1_dropOldest : ByteArray := prog_3_method_5_code
def yX1_dropOldest : MethodName := ⟨RX1, "dropOldest", "()V"⟩
def RX2 : String := "SnakeTrades$Piece"
def TX2 : u_T := fun k => match k with
  | 0 => ("SnakeTrades$Piece", "bites", "[LSnakeTrades$Bite;", true)
  | 1 => ("SnakeTrades$Piece", "held", "I", false)
  | 2 => ("SnakeTrades$Piece", "square", "I", false)
  | 3 => ("SnakeTrades$Piece", "coins", "I", false)
  | 4 => ("SnakeTrades$Piece", "place", "I", false)
  | 5 => ("SnakeTrades$Piece", "timesBitten", "I", false)
  | _ => ("SnakeTrades$Piece", "movedBack", "I", false)
def tyX2 : Nat → FieldType := fun k => match k with
  | 0 => .array (.object "SnakeTrades$Bite")
  | 1 => .int
  | 2 => .int
  | 3 => .int
  | 4 => .int
  | 5 => .int
  | _ => .int
theorem nmX2 : ∀ a, a < 7 → ∀ b, b < 7 → a ≠ b → (TX2 a).2.1 ≠ (TX2 b).2.1 := by decide +kernel
theorem tyX2_ok : ∀ k, k < 7 → parseFieldDescriptor (TX2 k).2.2.1 = some (tyX2 k) := by decide +kernel
abbrev cX2_init : ByteArray := prog_4_method_1_code
def yX2_init : MethodName := ⟨RX2, "<init>", "()V"⟩
abbrev cX2_isInRace : ByteArray := prog_4_method_2_code
def yX2_isInRace : MethodName := ⟨RX2, "isInRace", "()Z"⟩
abbrev cX2_biteAt : ByteArray := prog_4_method_3_code
def yX2_biteAt : MethodName := ⟨RX2, "biteAt", "(I)LSnakeTrades$Bite;"⟩
abbrev cX2_sizesTogether : ByteArray := prog_4_method_4_code
def yX2_sizesTogether : MethodName := ⟨RX2, "sizesTogether", "()I"⟩
abbrev cX2_nextBeginning : ByteArray := prog_4_method_5_code
def yX2_nextBeginning : MethodName := ⟨RX2, "nextBeginning", "()I"⟩
abbrev cX2_hurt : ByteArray := prog_4_method_6_code
def yX2_hurt : MethodName := ⟨RX2, "hurt", "()V"⟩
abbrev cX2_newLast : ByteArray := prog_4_method_7_code
def yX2_newLast : MethodName := ⟨RX2, "newLast", "()LSnakeTrades$Bite;"⟩
abbrev cX2_remove : ByteArray := prog_4_method_8_code
def yX2_remove : MethodName := ⟨RX2, "remove", "(I)V"⟩
abbrev cX2_copyFrom : ByteArray := prog_4_method_9_code
def yX2_copyFrom : MethodName := ⟨RX2, "copyFrom", "(LSnakeTrades$Piece;)V"⟩
def RX3 : String := "SnakeTrades$Race"
def TX3 : u_T := fun k => match k with
  | 0 => ("SnakeTrades$Race", "pieces", "[LSnakeTrades$Piece;", true)
  | 1 => ("SnakeTrades$Race", "snakes", "[LSnakeTrades$Snake;", true)
  | 2 => ("SnakeTrades$Race", "sleepSetting", "I", false)
  | 3 => ("SnakeTrades$Race", "limitSetting", "I", false)
  | 4 => ("SnakeTrades$Race", "tradesSetting", "I", false)
  | 5 => ("SnakeTrades$Race", "mover", "I", false)
  | 6 => ("SnakeTrades$Race", "turns", "I", false)
  | 7 => ("SnakeTrades$Race", "arrived", "I", false)
  | 8 => ("SnakeTrades$Race", "bitesSoFar", "I", false)
  | _ => ("SnakeTrades$Race", "salesSoFar", "I", false)
def tyX3 : Nat → FieldType := fun k => match k with
  | 0 => .array (.object "SnakeTrades$Piece")
  | 1 => .array (.object "SnakeTrades$Snake")
  | 2 => .int
  | 3 => .int
  | 4 => .int
  | 5 => .int
  | 6 => .int
  | 7 => .int
  | 8 => .int
  | _ => .int
theorem nmX3 : ∀ a, a < 10 → ∀ b, b < 10 → a ≠ b → (TX3 a).2.1 ≠ (TX3 b).2.1 := by decide +kernel
theorem tyX3_ok : ∀ k, k < 10 → parseFieldDescriptor (TX3 k).2.2.1 = some (tyX3 k) := by decide +kernel
abbrev cX3_init : ByteArray := prog_5_method_1_code
def yX3_init : MethodName := ⟨RX3, "<init>", "()V"⟩
abbrev cX3_copyFrom : ByteArray := prog_5_method_2_code
def yX3_copyFrom : MethodName := ⟨RX3, "copyFrom", "(LSnakeTrades$Race;)V"⟩
abbrev cX3_pieceOf : ByteArray := prog_5_method_3_code
def yX3_pieceOf : MethodName := ⟨RX3, "pieceOf", "(I)LSnakeTrades$Piece;"⟩
abbrev cX3_biteOf : ByteArray := prog_5_method_4_code
def yX3_biteOf : MethodName := ⟨RX3, "biteOf", "(II)LSnakeTrades$Bite;"⟩
abbrev cX3_placeOfSnake : ByteArray := prog_5_method_5_code
def yX3_placeOfSnake : MethodName := ⟨RX3, "placeOfSnake", "(I)LSnakeTrades$Snake;"⟩
abbrev cX3_snakeNumbered : ByteArray := prog_5_method_6_code
def yX3_snakeNumbered : MethodName := ⟨RX3, "snakeNumbered", "(I)LSnakeTrades$Snake;"⟩
abbrev cX3_freeNumber : ByteArray := prog_5_method_7_code
def yX3_freeNumber : MethodName := ⟨RX3, "freeNumber", "()I"⟩
abbrev cX3_numberOfHeadOn : ByteArray := prog_5_method_8_code
def yX3_numberOfHeadOn : MethodName := ⟨RX3, "numberOfHeadOn", "(I)I"⟩
abbrev cX3_tailsOn : ByteArray := prog_5_method_9_code
def yX3_tailsOn : MethodName := ⟨RX3, "tailsOn", "(I)I"⟩
abbrev cX3_snakesThere : ByteArray := prog_5_method_10_code
def yX3_snakesThere : MethodName := ⟨RX3, "snakesThere", "()I"⟩
abbrev cX3_piecesOn : ByteArray := prog_5_method_11_code
def yX3_piecesOn : MethodName := ⟨RX3, "piecesOn", "(I)I"⟩
abbrev cX3_isInRace : ByteArray := prog_5_method_12_code
def yX3_isInRace : MethodName := ⟨RX3, "isInRace", "(I)Z"⟩
abbrev cX3_playersInRace : ByteArray := prog_5_method_13_code
def yX3_playersInRace : MethodName := ⟨RX3, "playersInRace", "()I"⟩
abbrev cX3_bitesHeld : ByteArray := prog_5_method_14_code
def yX3_bitesHeld : MethodName := ⟨RX3, "bitesHeld", "()I"⟩
abbrev cX3_coinsOfAll : ByteArray := prog_5_method_15_code
def yX3_coinsOfAll : MethodName := ⟨RX3, "coinsOfAll", "()I"⟩
abbrev cX3_settingOf : ByteArray := prog_5_method_16_code
def yX3_settingOf : MethodName := ⟨RX3, "settingOf", "(I)I"⟩
abbrev cX3_changeSetting : ByteArray := prog_5_method_17_code
def yX3_changeSetting : MethodName := ⟨RX3, "changeSetting", "(II)V"⟩
abbrev cX3_isOver : ByteArray := prog_5_method_18_code
def yX3_isOver : MethodName := ⟨RX3, "isOver", "()Z"⟩
abbrev cX3_makeTurn : ByteArray := prog_5_method_19_code
def yX3_makeTurn : MethodName := ⟨RX3, "makeTurn", "(I)I"⟩
abbrev cX3_biterOf : ByteArray := prog_5_method_20_code
def yX3_biterOf : MethodName := ⟨RX3, "biterOf", "(II)LSnakeTrades$Snake;"⟩
abbrev cX3_biteWith : ByteArray := prog_5_method_21_code
def yX3_biteWith : MethodName := ⟨RX3, "biteWith", "(LSnakeTrades$Snake;LSnakeTrades$Piece;I)V"⟩
abbrev cX3_shortenSleeps : ByteArray := prog_5_method_22_code
def yX3_shortenSleeps : MethodName := ⟨RX3, "shortenSleeps", "()V"⟩
abbrev cX3_moverAfter : ByteArray := prog_5_method_23_code
def yX3_moverAfter : MethodName := ⟨RX3, "moverAfter", "(I)I"⟩
abbrev cX3_beginningAfter : ByteArray := prog_5_method_24_code
def yX3_beginningAfter : MethodName := ⟨RX3, "beginningAfter", "(I)I"⟩
abbrev cX3_askedBy : ByteArray := prog_5_method_25_code
def yX3_askedBy : MethodName := ⟨RX3, "askedBy", "(ILSnakeTrades$Bite;)I"⟩
abbrev cX3_obstacle : ByteArray := prog_5_method_26_code
def yX3_obstacle : MethodName := ⟨RX3, "obstacle", "(IIII)I"⟩
abbrev cX3_trade : ByteArray := prog_5_method_27_code
def yX3_trade : MethodName := ⟨RX3, "trade", "(IIII)I"⟩
def RX4 : String := "SnakeTrades$Script"
def TX4 : u_T := fun k => match k with
  | 0 => ("SnakeTrades$Script", "signs", "[I", true)
  | _ => ("SnakeTrades$Script", "length", "I", false)
def tyX4 : Nat → FieldType := fun k => match k with
  | 0 => .array .int
  | _ => .int
theorem nmX4 : ∀ a, a < 2 → ∀ b, b < 2 → a ≠ b → (TX4 a).2.1 ≠ (TX4 b).2.1 := by decide +kernel
theorem tyX4_ok : ∀ k, k < 2 → parseFieldDescriptor (TX4 k).2.2.1 = some (tyX4 k) := by decide +kernel
abbrev cX4_init : ByteArray := prog_6_method_1_code
def yX4_init : MethodName := ⟨RX4, "<init>", "()V"⟩
abbrev cX4_signAt : ByteArray := prog_6_method_2_code
def yX4_signAt : MethodName := ⟨RX4, "signAt", "(I)I"⟩
abbrev cX4_add : ByteArray := prog_6_method_3_code
def yX4_add : MethodName := ⟨RX4, "add", "(I)Z"⟩
abbrev cX4_firstFault : ByteArray := prog_6_method_4_code
def yX4_firstFault : MethodName := ⟨RX4, "firstFault", "()I"⟩
abbrev cX4_readAfter : ByteArray := prog_6_method_5_code
def yX4_readAfter : MethodName := ⟨RX4, "readAfter", "(II)I"⟩
abbrev cX4_isFrom : ByteArray := prog_6_method_6_code
def yX4_isFrom : MethodName := ⟨RX4, "isFrom", "(III)Z"⟩
abbrev cX4_carryOut : ByteArray := prog_6_method_7_code
def yX4_carryOut : MethodName := ⟨RX4, "carryOut", "(LSnakeTrades$Race;)I"⟩
abbrev cX4_tradeFrom : ByteArray := prog_6_method_8_code
def yX4_tradeFrom : MethodName := ⟨RX4, "tradeFrom", "(LSnakeTrades$Race;II)I"⟩
def RX5 : String := "SnakeTrades$Search"
def TX5 : u_T := fun k => match k with
  | 0 => ("SnakeTrades$Search", "throwsTo", "[I", true)
  | 1 => ("SnakeTrades$Search", "queue", "[I", true)
  | _ => ("SnakeTrades$Search", "queued", "I", false)
def tyX5 : Nat → FieldType := fun k => match k with
  | 0 => .array .int
  | 1 => .array .int
  | _ => .int
theorem nmX5 : ∀ a, a < 3 → ∀ b, b < 3 → a ≠ b → (TX5 a).2.1 ≠ (TX5 b).2.1 := by decide +kernel
theorem tyX5_ok : ∀ k, k < 3 → parseFieldDescriptor (TX5 k).2.2.1 = some (tyX5 k) := by decide +kernel
abbrev cX5_init : ByteArray := prog_7_method_1_code
def yX5_init : MethodName := ⟨RX5, "<init>", "()V"⟩
abbrev cX5_onFrom : ByteArray := prog_7_method_2_code
def yX5_onFrom : MethodName := ⟨RX5, "onFrom", "(LSnakeTrades$Race;I)I"⟩
abbrev cX5_backTo : ByteArray := prog_7_method_3_code
def yX5_backTo : MethodName := ⟨RX5, "backTo", "(LSnakeTrades$Race;I)I"⟩
abbrev cX5_seeLandingsThatLeadTo : ByteArray := prog_7_method_4_code
def yX5_seeLandingsThatLeadTo : MethodName := ⟨RX5, "seeLandingsThatLeadTo", "(ILSnakeTrades$Race;)V"⟩
abbrev cX5_seeSquaresBefore : ByteArray := prog_7_method_5_code
def yX5_seeSquaresBefore : MethodName := ⟨RX5, "seeSquaresBefore", "(II)V"⟩
abbrev cX5_start : ByteArray := prog_7_method_6_code
def yX5_start : MethodName := ⟨RX5, "start", "(I)V"⟩
abbrev cX5_see : ByteArray := prog_7_method_7_code
def yX5_see : MethodName := ⟨RX5, "see", "(II)V"⟩
abbrev cX5_throwsAt : ByteArray := prog_7_method_8_code
def yX5_throwsAt : MethodName := ⟨RX5, "throwsAt", "(I)I"⟩
def RX6 : String := "SnakeTrades$Snake"
def TX6 : u_T := fun k => match k with
  | 0 => ("SnakeTrades$Snake", "head", "I", false)
  | 1 => ("SnakeTrades$Snake", "tail", "I", false)
  | 2 => ("SnakeTrades$Snake", "sleep", "I", false)
  | _ => ("SnakeTrades$Snake", "timesBiting", "I", false)
def tyX6 : Nat → FieldType := fun k => match k with
  | 0 => .int
  | 1 => .int
  | 2 => .int
  | _ => .int
theorem nmX6 : ∀ a, a < 4 → ∀ b, b < 4 → a ≠ b → (TX6 a).2.1 ≠ (TX6 b).2.1 := by decide +kernel
theorem tyX6_ok : ∀ k, k < 4 → parseFieldDescriptor (TX6 k).2.2.1 = some (tyX6 k) := by decide +kernel
abbrev cX6_init : ByteArray := prog_8_method_1_code
def yX6_init : MethodName := ⟨RX6, "<init>", "()V"⟩
abbrev cX6_isThere : ByteArray := prog_8_method_2_code
def yX6_isThere : MethodName := ⟨RX6, "isThere", "()Z"⟩
abbrev cX6_appear : ByteArray := prog_8_method_3_code
def yX6_appear : MethodName := ⟨RX6, "appear", "(II)V"⟩
abbrev cX6_vanish : ByteArray := prog_8_method_4_code
def yX6_vanish : MethodName := ⟨RX6, "vanish", "()V"⟩
abbrev cX6_copyFrom : ByteArray := prog_8_method_5_code
def yX6_copyFrom : MethodName := ⟨RX6, "copyFrom", "(LSnakeTrades$Snake;)V"⟩
def RX7 : String := "SnakeTrades"
def TX7 : u_T := fun k => match k with
  | 0 => ("SnakeTrades", "race", "LSnakeTrades$Race;", true)
  | 1 => ("SnakeTrades", "trial", "LSnakeTrades$Race;", true)
  | 2 => ("SnakeTrades", "snapshot", "LSnakeTrades$Race;", true)
  | 3 => ("SnakeTrades", "past", "LSnakeTrades$Past;", true)
  | 4 => ("SnakeTrades", "script", "LSnakeTrades$Script;", true)
  | 5 => ("SnakeTrades", "search", "LSnakeTrades$Search;", true)
  | _ => ("SnakeTrades", "hasSnapshot", "Z", false)
def tyX7 : Nat → FieldType := fun k => match k with
  | 0 => .object "SnakeTrades$Race"
  | 1 => .object "SnakeTrades$Race"
  | 2 => .object "SnakeTrades$Race"
  | 3 => .object "SnakeTrades$Past"
  | 4 => .object "SnakeTrades$Script"
  | 5 => .object "SnakeTrades$Search"
  | _ => .boolean
theorem nmX7 : ∀ a, a < 7 → ∀ b, b < 7 → a ≠ b → (TX7 a).2.1 ≠ (TX7 b).2.1 := by decide +kernel
theorem tyX7_ok : ∀ k, k < 7 → parseFieldDescriptor (TX7 k).2.2.1 = some (tyX7 k) := by decide +kernel
abbrev cX7_init : ByteArray := prog_1_method_1_code
def yX7_init : MethodName := ⟨RX7, "<init>", "()V"⟩
abbrev cX7_snake : ByteArray := prog_1_method_2_code
def yX7_snake : MethodName := ⟨RX7, "snake", "(II)I"⟩
abbrev cX7_charm : ByteArray := prog_1_method_3_code
def yX7_charm : MethodName := ⟨RX7, "charm", "(II)I"⟩
abbrev cX7_turn : ByteArray := prog_1_method_4_code
def yX7_turn : MethodName := ⟨RX7, "turn", "(I)I"⟩
abbrev cX7_play : ByteArray := prog_1_method_5_code
def yX7_play : MethodName := ⟨RX7, "play", "(II)I"⟩
abbrev cX7_sell : ByteArray := prog_1_method_6_code
def yX7_sell : MethodName := ⟨RX7, "sell", "(IIII)I"⟩
abbrev cX7_set : ByteArray := prog_1_method_7_code
def yX7_set : MethodName := ⟨RX7, "set", "(II)I"⟩
abbrev cX7_append : ByteArray := prog_1_method_8_code
def yX7_append : MethodName := ⟨RX7, "append", "(I)I"⟩
abbrev cX7_clearText : ByteArray := prog_1_method_9_code
def yX7_clearText : MethodName := ⟨RX7, "clearText", "()I"⟩
abbrev cX7_fault : ByteArray := prog_1_method_10_code
def yX7_fault : MethodName := ⟨RX7, "fault", "()I"⟩
abbrev cX7_run : ByteArray := prog_1_method_11_code
def yX7_run : MethodName := ⟨RX7, "run", "()I"⟩
abbrev cX7_undo : ByteArray := prog_1_method_12_code
def yX7_undo : MethodName := ⟨RX7, "undo", "()I"⟩
abbrev cX7_save : ByteArray := prog_1_method_13_code
def yX7_save : MethodName := ⟨RX7, "save", "()I"⟩
abbrev cX7_restore : ByteArray := prog_1_method_14_code
def yX7_restore : MethodName := ⟨RX7, "restore", "()I"⟩
abbrev cX7_player : ByteArray := prog_1_method_15_code
def yX7_player : MethodName := ⟨RX7, "player", "(II)I"⟩
abbrev cX7_bite : ByteArray := prog_1_method_16_code
def yX7_bite : MethodName := ⟨RX7, "bite", "(III)I"⟩
abbrev cX7_snakeOf : ByteArray := prog_1_method_17_code
def yX7_snakeOf : MethodName := ⟨RX7, "snakeOf", "(II)I"⟩
abbrev cX7_square : ByteArray := prog_1_method_18_code
def yX7_square : MethodName := ⟨RX7, "square", "(II)I"⟩
abbrev cX7_count : ByteArray := prog_1_method_19_code
def yX7_count : MethodName := ⟨RX7, "count", "(I)I"⟩
abbrev cX7_why : ByteArray := prog_1_method_20_code
def yX7_why : MethodName := ⟨RX7, "why", "(IIII)I"⟩
abbrev cX7_cheapest : ByteArray := prog_1_method_21_code
def yX7_cheapest : MethodName := ⟨RX7, "cheapest", "(II)I"⟩
abbrev cX7_dangers : ByteArray := prog_1_method_22_code
def yX7_dangers : MethodName := ⟨RX7, "dangers", "(I)I"⟩
abbrev cX7_fewest : ByteArray := prog_1_method_23_code
def yX7_fewest : MethodName := ⟨RX7, "fewest", "(II)I"⟩
abbrev cX7_nextHome : ByteArray := prog_1_method_24_code
def yX7_nextHome : MethodName := ⟨RX7, "nextHome", "(I)I"⟩
abbrev cX7_progress : ByteArray := prog_1_method_25_code
def yX7_progress : MethodName := ⟨RX7, "progress", "(I)D"⟩
abbrev cX7_isSnakeForm : ByteArray := prog_1_method_26_code
def yX7_isSnakeForm : MethodName := ⟨RX7, "isSnakeForm", "(II)Z"⟩
abbrev cX7_leastValue : ByteArray := prog_1_method_27_code
def yX7_leastValue : MethodName := ⟨RX7, "leastValue", "(I)I"⟩
abbrev cX7_highestValue : ByteArray := prog_1_method_28_code
def yX7_highestValue : MethodName := ⟨RX7, "highestValue", "(I)I"⟩
abbrev cX7_isDraw : ByteArray := prog_1_method_29_code
def yX7_isDraw : MethodName := ⟨RX7, "isDraw", "(I)Z"⟩
abbrev cX7_drawAfter : ByteArray := prog_1_method_30_code
def yX7_drawAfter : MethodName := ⟨RX7, "drawAfter", "(I)I"⟩
abbrev cX7_throwOf : ByteArray := prog_1_method_31_code
def yX7_throwOf : MethodName := ⟨RX7, "throwOf", "(I)I"⟩
abbrev cX7_landing : ByteArray := prog_1_method_32_code
def yX7_landing : MethodName := ⟨RX7, "landing", "(II)I"⟩
def RX8 : String := "SnakeTradesModel"
def TX8 : u_T := fun k => match k with
  | 0 => ("SnakeTradesModel", "s", "[I", true)
  | 1 => ("SnakeTradesModel", "history", "[I", true)
  | 2 => ("SnakeTradesModel", "kept", "I", false)
  | 3 => ("SnakeTradesModel", "snapshot", "[I", true)
  | 4 => ("SnakeTradesModel", "isTaken", "Z", false)
  | 5 => ("SnakeTradesModel", "before", "[I", true)
  | 6 => ("SnakeTradesModel", "text", "[I", true)
  | 7 => ("SnakeTradesModel", "length", "I", false)
  | 8 => ("SnakeTradesModel", "place", "I", false)
  | 9 => ("SnakeTradesModel", "dice", "I", false)
  | 10 => ("SnakeTradesModel", "told", "[I", true)
  | 11 => ("SnakeTradesModel", "done", "I", false)
  | 12 => ("SnakeTradesModel", "begins", "[Z", true)
  | _ => ("SnakeTradesModel", "beginsThen", "[Z", true)
def tyX8 : Nat → FieldType := fun k => match k with
  | 0 => .array .int
  | 1 => .array .int
  | 2 => .int
  | 3 => .array .int
  | 4 => .boolean
  | 5 => .array .int
  | 6 => .array .int
  | 7 => .int
  | 8 => .int
  | 9 => .int
  | 10 => .array .int
  | 11 => .int
  | 12 => .array .boolean
  | _ => .array .boolean
theorem nmX8 : ∀ a, a < 14 → ∀ b, b < 14 → a ≠ b → (TX8 a).2.1 ≠ (TX8 b).2.1 := by decide +kernel
theorem tyX8_ok : ∀ k, k < 14 → parseFieldDescriptor (TX8 k).2.2.1 = some (tyX8 k) := by decide +kernel
abbrev cX8_init : ByteArray := prog_10_method_1_code
def yX8_init : MethodName := ⟨RX8, "<init>", "()V"⟩
abbrev cX8_in : ByteArray := prog_10_method_3_code
def yX8_in : MethodName := ⟨RX8, "in", "(III)Z"⟩
abbrev cX8_isPlayer : ByteArray := prog_10_method_4_code
def yX8_isPlayer : MethodName := ⟨RX8, "isPlayer", "(I)Z"⟩
abbrev cX8_of : ByteArray := prog_10_method_5_code
def yX8_of : MethodName := ⟨RX8, "of", "(II)I"⟩
abbrev cX8_add : ByteArray := prog_10_method_6_code
def yX8_add : MethodName := ⟨RX8, "add", "(III)V"⟩
abbrev cX8_whereIs : ByteArray := prog_10_method_7_code
def yX8_whereIs : MethodName := ⟨RX8, "whereIs", "(II)I"⟩
abbrev cX8_isBite : ByteArray := prog_10_method_8_code
def yX8_isBite : MethodName := ⟨RX8, "isBite", "(II)Z"⟩
abbrev cX8_ofSnake : ByteArray := prog_10_method_9_code
def yX8_ofSnake : MethodName := ⟨RX8, "ofSnake", "(II)I"⟩
abbrev cX8_isSnake : ByteArray := prog_10_method_10_code
def yX8_isSnake : MethodName := ⟨RX8, "isSnake", "(I)Z"⟩
abbrev cX8_isIn : ByteArray := prog_10_method_11_code
def yX8_isIn : MethodName := ⟨RX8, "isIn", "(I)Z"⟩
abbrev cX8_isOver : ByteArray := prog_10_method_12_code
def yX8_isOver : MethodName := ⟨RX8, "isOver", "()Z"⟩
abbrev cX8_copy : ByteArray := prog_10_method_13_code
def yX8_copy : MethodName := ⟨RX8, "copy", "([II[II)V"⟩
abbrev cX8_record : ByteArray := prog_10_method_14_code
def yX8_record : MethodName := ⟨RX8, "record", "()V"⟩
abbrev cX8_snakeAt : ByteArray := prog_10_method_15_code
def yX8_snakeAt : MethodName := ⟨RX8, "snakeAt", "(I)I"⟩
abbrev cX8_snakes : ByteArray := prog_10_method_16_code
def yX8_snakes : MethodName := ⟨RX8, "snakes", "()I"⟩
abbrev cX8_goOn : ByteArray := prog_10_method_17_code
def yX8_goOn : MethodName := ⟨RX8, "goOn", "(II)I"⟩
abbrev cX8_hurts : ByteArray := prog_10_method_18_code
def yX8_hurts : MethodName := ⟨RX8, "hurts", "(I)I"⟩
abbrev cX8_beginsAt : ByteArray := prog_10_method_19_code
def yX8_beginsAt : MethodName := ⟨RX8, "beginsAt", "(I)I"⟩
abbrev cX8_piecesAt : ByteArray := prog_10_method_20_code
def yX8_piecesAt : MethodName := ⟨RX8, "piecesAt", "(I)I"⟩
abbrev cX8_bites : ByteArray := prog_10_method_21_code
def yX8_bites : MethodName := ⟨RX8, "bites", "(II)Z"⟩
abbrev cX8_getBite : ByteArray := prog_10_method_22_code
def yX8_getBite : MethodName := ⟨RX8, "getBite", "(II)V"⟩
abbrev cX8_beBitten : ByteArray := prog_10_method_23_code
def yX8_beBitten : MethodName := ⟨RX8, "beBitten", "(II)V"⟩
abbrev cX8_doTurn : ByteArray := prog_10_method_24_code
def yX8_doTurn : MethodName := ⟨RX8, "doTurn", "(I)I"⟩
abbrev cX8_draw : ByteArray := prog_10_method_25_code
def yX8_draw : MethodName := ⟨RX8, "draw", "(I)I"⟩
abbrev cX8_diceOf : ByteArray := prog_10_method_26_code
def yX8_diceOf : MethodName := ⟨RX8, "diceOf", "(I)I"⟩
abbrev cX8_asks : ByteArray := prog_10_method_27_code
def yX8_asks : MethodName := ⟨RX8, "asks", "(II)I"⟩
abbrev cX8_reason : ByteArray := prog_10_method_28_code
def yX8_reason : MethodName := ⟨RX8, "reason", "(IIII)I"⟩
abbrev cX8_sellError : ByteArray := prog_10_method_29_code
def yX8_sellError : MethodName := ⟨RX8, "sellError", "(IIII)I"⟩
abbrev cX8_doSell : ByteArray := prog_10_method_30_code
def yX8_doSell : MethodName := ⟨RX8, "doSell", "(IIII)I"⟩
abbrev cX8_snake : ByteArray := prog_10_method_31_code
def yX8_snake : MethodName := ⟨RX8, "snake", "(II)I"⟩
abbrev cX8_charm : ByteArray := prog_10_method_32_code
def yX8_charm : MethodName := ⟨RX8, "charm", "(II)I"⟩
abbrev cX8_turnError : ByteArray := prog_10_method_33_code
def yX8_turnError : MethodName := ⟨RX8, "turnError", "(I)I"⟩
abbrev cX8_turn : ByteArray := prog_10_method_34_code
def yX8_turn : MethodName := ⟨RX8, "turn", "(I)I"⟩
abbrev cX8_play : ByteArray := prog_10_method_35_code
def yX8_play : MethodName := ⟨RX8, "play", "(II)I"⟩
abbrev cX8_sell : ByteArray := prog_10_method_36_code
def yX8_sell : MethodName := ⟨RX8, "sell", "(IIII)I"⟩
abbrev cX8_set : ByteArray := prog_10_method_37_code
def yX8_set : MethodName := ⟨RX8, "set", "(II)I"⟩
abbrev cX8_append : ByteArray := prog_10_method_38_code
def yX8_append : MethodName := ⟨RX8, "append", "(I)I"⟩
abbrev cX8_clearText : ByteArray := prog_10_method_39_code
def yX8_clearText : MethodName := ⟨RX8, "clearText", "()I"⟩
abbrev cX8_isNext : ByteArray := prog_10_method_40_code
def yX8_isNext : MethodName := ⟨RX8, "isNext", "(II)Z"⟩
abbrev cX8_takes : ByteArray := prog_10_method_41_code
def yX8_takes : MethodName := ⟨RX8, "takes", "(I)Z"⟩
abbrev cX8_take : ByteArray := prog_10_method_42_code
def yX8_take : MethodName := ⟨RX8, "take", "(III)Z"⟩
abbrev cX8_readCoins : ByteArray := prog_10_method_43_code
def yX8_readCoins : MethodName := ⟨RX8, "readCoins", "()Z"⟩
abbrev cX8_readOrder : ByteArray := prog_10_method_44_code
def yX8_readOrder : MethodName := ⟨RX8, "readOrder", "()Z"⟩
abbrev cX8_does : ByteArray := prog_10_method_45_code
def yX8_does : MethodName := ⟨RX8, "does", "()Z"⟩
abbrev cX8_readText : ByteArray := prog_10_method_46_code
def yX8_readText : MethodName := ⟨RX8, "readText", "(Z)Z"⟩
abbrev cX8_fault : ByteArray := prog_10_method_47_code
def yX8_fault : MethodName := ⟨RX8, "fault", "()I"⟩
abbrev cX8_run : ByteArray := prog_10_method_48_code
def yX8_run : MethodName := ⟨RX8, "run", "()I"⟩
abbrev cX8_undo : ByteArray := prog_10_method_49_code
def yX8_undo : MethodName := ⟨RX8, "undo", "()I"⟩
abbrev cX8_save : ByteArray := prog_10_method_50_code
def yX8_save : MethodName := ⟨RX8, "save", "()I"⟩
abbrev cX8_restore : ByteArray := prog_10_method_51_code
def yX8_restore : MethodName := ⟨RX8, "restore", "()I"⟩
abbrev cX8_player : ByteArray := prog_10_method_52_code
def yX8_player : MethodName := ⟨RX8, "player", "(II)I"⟩
abbrev cX8_bite : ByteArray := prog_10_method_53_code
def yX8_bite : MethodName := ⟨RX8, "bite", "(III)I"⟩
abbrev cX8_snakeOf : ByteArray := prog_10_method_54_code
def yX8_snakeOf : MethodName := ⟨RX8, "snakeOf", "(II)I"⟩
abbrev cX8_tailsAt : ByteArray := prog_10_method_55_code
def yX8_tailsAt : MethodName := ⟨RX8, "tailsAt", "(I)I"⟩
abbrev cX8_square : ByteArray := prog_10_method_56_code
def yX8_square : MethodName := ⟨RX8, "square", "(II)I"⟩
abbrev cX8_sumOf : ByteArray := prog_10_method_57_code
def yX8_sumOf : MethodName := ⟨RX8, "sumOf", "(I)I"⟩
abbrev cX8_count : ByteArray := prog_10_method_58_code
def yX8_count : MethodName := ⟨RX8, "count", "(I)I"⟩
abbrev cX8_why : ByteArray := prog_10_method_59_code
def yX8_why : MethodName := ⟨RX8, "why", "(IIII)I"⟩
abbrev cX8_cheapest : ByteArray := prog_10_method_60_code
def yX8_cheapest : MethodName := ⟨RX8, "cheapest", "(II)I"⟩
abbrev cX8_dangers : ByteArray := prog_10_method_61_code
def yX8_dangers : MethodName := ⟨RX8, "dangers", "(I)I"⟩
abbrev cX8_throwsHome : ByteArray := prog_10_method_62_code
def yX8_throwsHome : MethodName := ⟨RX8, "throwsHome", "()Z"⟩
abbrev cX8_fewest : ByteArray := prog_10_method_63_code
def yX8_fewest : MethodName := ⟨RX8, "fewest", "(II)I"⟩
abbrev cX8_nextHome : ByteArray := prog_10_method_64_code
def yX8_nextHome : MethodName := ⟨RX8, "nextHome", "(I)I"⟩
abbrev cX8_progress : ByteArray := prog_10_method_65_code
def yX8_progress : MethodName := ⟨RX8, "progress", "(I)D"⟩
def RL : String := "SnakeTradesLaw"
abbrev cL_law : ByteArray := code
def yL_law : MethodName := ⟨RL, "law", "([I)Z"⟩
abbrev vwCl : List vw_C := [(RX0, TX0, 4), (RX1, TX1, 2), (RX2, TX2, 7), (RX3, TX3, 10), (RX4, TX4, 2), (RX5, TX5, 3), (RX6, TX6, 4), (RX7, TX7, 7), (RX8, TX8, 14)]
end
section
/-! FLAT MEMORY: every cell from a base on, by its kind. Kinds 0 to 8: an object of that class of vwCl; 9 int[], 10 boolean[], 11 Race[], 12 Piece[], 13 Bite[], 14 Snake[] (with the length). Ints in I (address, place), references in P (addresses counted from the base). -/
abbrev fw_T : Type := Nat × (Nat → Nat × Nat)
abbrev fw_G : Type := Nat × va_G × (Nat → ClassId)
abbrev fw_I : Type := Nat → Nat → Int32
abbrev fw_P : Type := Nat → Nat → Option Nat
/-- a method: name, code, locals, answer, frames and words of room below it -/
abbrev fw_M : Type := MethodName × ByteArray × Nat × Option FieldType × Nat × Nat
def fw_rf (g : fw_G) : Option Nat → Value
  | none => .null
  | some a => .ref (g.1 + a)
theorem fw_rf_map (g : fw_G) (r : Option Nat) : va_rf (r.map fun b => g.1 + b) = fw_rf g r := by cases r <;> rfl
def fw_fs (g : fw_G) (I : fw_I) (P : fw_P) (a : Nat) : Nat → List Value
  | 0 => [.int (I a 0), .int (I a 1), .int (I a 2), .int (I a 3)]
  | 1 => [fw_rf g (P a 0), .int (I a 1)]
  | 2 => [fw_rf g (P a 0), .int (I a 1), .int (I a 2), .int (I a 3), .int (I a 4), .int (I a 5), .int (I a 6)]
  | 3 => [fw_rf g (P a 0), fw_rf g (P a 1), .int (I a 2), .int (I a 3), .int (I a 4), .int (I a 5), .int (I a 6), .int (I a 7), .int (I a 8), .int (I a 9)]
  | 4 => [fw_rf g (P a 0), .int (I a 1)]
  | 5 => [fw_rf g (P a 0), fw_rf g (P a 1), .int (I a 2)]
  | 6 => [.int (I a 0), .int (I a 1), .int (I a 2), .int (I a 3)]
  | 7 => [fw_rf g (P a 0), fw_rf g (P a 1), fw_rf g (P a 2), fw_rf g (P a 3), fw_rf g (P a 4), fw_rf g (P a 5), .int (I a 6)]
  | _ => [fw_rf g (P a 0), fw_rf g (P a 1), .int (I a 2), fw_rf g (P a 3), .int (I a 4), fw_rf g (P a 5), fw_rf g (P a 6), .int (I a 7), .int (I a 8), .int (I a 9), fw_rf g (P a 10), .int (I a 11), fw_rf g (P a 12), fw_rf g (P a 13)]
/-- which fields are ints -/
def fw_int : Nat → Nat → Bool
  | 0, k => decide (k < 4)
  | 1, k => decide (k = 1)
  | 2, k => decide (1 ≤ k ∧ k < 7)
  | 3, k => decide (2 ≤ k ∧ k < 10)
  | 4, k => decide (k = 1)
  | 5, k => decide (k = 2)
  | 6, k => decide (k < 4)
  | 7, k => decide (k = 6)
  | 8, k => decide (k = 2 ∨ k = 4 ∨ k = 7 ∨ k = 8 ∨ k = 9 ∨ k = 11)
  | _, _ => false
def fw_refs : Nat → Nat → Bool
  | 1, k => decide (k = 0)
  | 2, k => decide (k = 0)
  | 3, k => decide (k < 2)
  | 4, k => decide (k = 0)
  | 5, k => decide (k < 2)
  | 7, k => decide (k < 6)
  | 8, k => decide (k = 0 ∨ k = 1 ∨ k = 3 ∨ k = 5 ∨ k = 6 ∨ k = 10 ∨ k = 12 ∨ k = 13)
  | _, _ => false
def fw_ent (g : fw_G) (I : fw_I) (P : fw_P) (a : Nat) : Nat × Nat → va_E
  | (9, n) => .inl (g.2.2 9, n, .inl (I a))
  | (10, n) => .inl (g.2.2 10, n, .inl (I a))
  | (11, n) => .inl (g.2.2 11, n, .inr (.inr (.inr (.inr (fun j => (P a j).map fun b => g.1 + b)))))
  | (12, n) => .inl (g.2.2 12, n, .inr (.inr (.inr (.inr (fun j => (P a j).map fun b => g.1 + b)))))
  | (13, n) => .inl (g.2.2 13, n, .inr (.inr (.inr (.inr (fun j => (P a j).map fun b => g.1 + b)))))
  | (14, n) => .inl (g.2.2 14, n, .inr (.inr (.inr (.inr (fun j => (P a j).map fun b => g.1 + b)))))
  | (c, _) => .inr (c, fw_fs g I P a c)
theorem fw_ent_ob (g : fw_G) (I : fw_I) (P : fw_P) (a n : Nat) {c : Nat} (h : c < 9) : fw_ent g I P a (c, n) = .inr (c, fw_fs g I P a c) := by
  match c, h with
  | 0, _ => rfl
  | 1, _ => rfl
  | 2, _ => rfl
  | 3, _ => rfl
  | 4, _ => rfl
  | 5, _ => rfl
  | 6, _ => rfl
  | 7, _ => rfl
  | 8, _ => rfl
def up2 {α : Type} (I : Nat → Nat → α) (a k : Nat) (x : α) : Nat → Nat → α := fun b => if b = a then (fun j => if j = k then x else I a j) else I b
theorem up2_same {α : Type} (I : Nat → Nat → α) (a k : Nat) (x : α) : up2 I a k x a k = x := by simp [up2]
theorem up2_row {α : Type} (I : Nat → Nat → α) (a k : Nat) (x : α) : up2 I a k x a = fun j => if j = k then x else I a j := by simp [up2]
theorem up2_ne {α : Type} (I : Nat → Nat → α) {a b : Nat} (k : Nat) (x : α) (h : b ≠ a) : up2 I a k x b = I b := by simp [up2, h]
theorem up2_at {α : Type} (I : Nat → Nat → α) (a k : Nat) (x : α) (b j : Nat) : up2 I a k x b j = if b = a ∧ j = k then x else I b j := by
  unfold up2
  by_cases h : b = a
  · subst h; by_cases h2 : j = k <;> simp [h2]
  · simp [h]
theorem fw_seti (g : fw_G) (I : fw_I) (P : fw_P) (a : Nat) (x : Int32) : ∀ (c k : Nat), fw_int c k = true → (fw_fs g I P a c).set k (.int x) = fw_fs g (up2 I a k x) P a c := by
  intro c k h
  match c, h with
  | 0, h => match k, h with
    | 0, _ => simp [fw_fs, up2]
    | 1, _ => simp [fw_fs, up2]
    | 2, _ => simp [fw_fs, up2]
    | 3, _ => simp [fw_fs, up2]
    | k + 4, h => (simp [fw_int] at h <;> omega)
  | 1, h => match k, h with
    | 1, _ => simp [fw_fs, up2]
    | 0, h => (simp [fw_int] at h <;> omega)
    | k + 2, h => (simp [fw_int] at h <;> omega)
  | 2, h => match k, h with
    | 0, h => (simp [fw_int] at h <;> omega)
    | 1, _ => simp [fw_fs, up2]
    | 2, _ => simp [fw_fs, up2]
    | 3, _ => simp [fw_fs, up2]
    | 4, _ => simp [fw_fs, up2]
    | 5, _ => simp [fw_fs, up2]
    | 6, _ => simp [fw_fs, up2]
    | k + 7, h => (simp [fw_int] at h <;> omega)
  | 3, h => match k, h with
    | 0, h => (simp [fw_int] at h <;> omega)
    | 1, h => (simp [fw_int] at h <;> omega)
    | 2, _ => simp [fw_fs, up2]
    | 3, _ => simp [fw_fs, up2]
    | 4, _ => simp [fw_fs, up2]
    | 5, _ => simp [fw_fs, up2]
    | 6, _ => simp [fw_fs, up2]
    | 7, _ => simp [fw_fs, up2]
    | 8, _ => simp [fw_fs, up2]
    | 9, _ => simp [fw_fs, up2]
    | k + 10, h => (simp [fw_int] at h <;> omega)
  | 4, h => match k, h with
    | 1, _ => simp [fw_fs, up2]
    | 0, h => (simp [fw_int] at h <;> omega)
    | k + 2, h => (simp [fw_int] at h <;> omega)
  | 5, h => match k, h with
    | 2, _ => simp [fw_fs, up2]
    | 0, h => (simp [fw_int] at h <;> omega)
    | 1, h => (simp [fw_int] at h <;> omega)
    | k + 3, h => (simp [fw_int] at h <;> omega)
  | 6, h => match k, h with
    | 0, _ => simp [fw_fs, up2]
    | 1, _ => simp [fw_fs, up2]
    | 2, _ => simp [fw_fs, up2]
    | 3, _ => simp [fw_fs, up2]
    | k + 4, h => (simp [fw_int] at h <;> omega)
  | 7, h => match k, h with
    | 6, _ => simp [fw_fs, up2]
    | 0, h => (simp [fw_int] at h <;> omega)
    | 1, h => (simp [fw_int] at h <;> omega)
    | 2, h => (simp [fw_int] at h <;> omega)
    | 3, h => (simp [fw_int] at h <;> omega)
    | 4, h => (simp [fw_int] at h <;> omega)
    | 5, h => (simp [fw_int] at h <;> omega)
    | k + 7, h => (simp [fw_int] at h <;> omega)
  | 8, h => match k, h with
    | 2, _ => simp [fw_fs, up2]
    | 4, _ => simp [fw_fs, up2]
    | 7, _ => simp [fw_fs, up2]
    | 8, _ => simp [fw_fs, up2]
    | 9, _ => simp [fw_fs, up2]
    | 11, _ => simp [fw_fs, up2]
    | 0, h => (simp [fw_int] at h <;> omega)
    | 1, h => (simp [fw_int] at h <;> omega)
    | 3, h => (simp [fw_int] at h <;> omega)
    | 5, h => (simp [fw_int] at h <;> omega)
    | 6, h => (simp [fw_int] at h <;> omega)
    | 10, h => (simp [fw_int] at h <;> omega)
    | k + 12, h => (simp [fw_int] at h <;> omega)
  | c + 9, h => (simp [fw_int] at h <;> omega)
theorem fw_setr (g : fw_G) (I : fw_I) (P : fw_P) (a : Nat) (r : Option Nat) : ∀ (c k : Nat), fw_refs c k = true → (fw_fs g I P a c).set k (fw_rf g r) = fw_fs g I (up2 P a k r) a c := by
  intro c k h
  match c, h with
  | 0, h => (simp [fw_refs] at h <;> omega)
  | 1, h => match k, h with
    | 0, _ => simp [fw_fs, up2]
    | k + 1, h => (simp [fw_refs] at h <;> omega)
  | 2, h => match k, h with
    | 0, _ => simp [fw_fs, up2]
    | k + 1, h => (simp [fw_refs] at h <;> omega)
  | 3, h => match k, h with
    | 0, _ => simp [fw_fs, up2]
    | 1, _ => simp [fw_fs, up2]
    | k + 2, h => (simp [fw_refs] at h <;> omega)
  | 4, h => match k, h with
    | 0, _ => simp [fw_fs, up2]
    | k + 1, h => (simp [fw_refs] at h <;> omega)
  | 5, h => match k, h with
    | 0, _ => simp [fw_fs, up2]
    | 1, _ => simp [fw_fs, up2]
    | k + 2, h => (simp [fw_refs] at h <;> omega)
  | 6, h => (simp [fw_refs] at h <;> omega)
  | 7, h => match k, h with
    | 0, _ => simp [fw_fs, up2]
    | 1, _ => simp [fw_fs, up2]
    | 2, _ => simp [fw_fs, up2]
    | 3, _ => simp [fw_fs, up2]
    | 4, _ => simp [fw_fs, up2]
    | 5, _ => simp [fw_fs, up2]
    | k + 6, h => (simp [fw_refs] at h <;> omega)
  | 8, h => match k, h with
    | 0, _ => simp [fw_fs, up2]
    | 1, _ => simp [fw_fs, up2]
    | 3, _ => simp [fw_fs, up2]
    | 5, _ => simp [fw_fs, up2]
    | 6, _ => simp [fw_fs, up2]
    | 10, _ => simp [fw_fs, up2]
    | 12, _ => simp [fw_fs, up2]
    | 13, _ => simp [fw_fs, up2]
    | 2, h => (simp [fw_refs] at h <;> omega)
    | 4, h => (simp [fw_refs] at h <;> omega)
    | 7, h => (simp [fw_refs] at h <;> omega)
    | 8, h => (simp [fw_refs] at h <;> omega)
    | 9, h => (simp [fw_refs] at h <;> omega)
    | 11, h => (simp [fw_refs] at h <;> omega)
    | k + 14, h => (simp [fw_refs] at h <;> omega)
  | c + 9, h => (simp [fw_refs] at h <;> omega)
def fw_ws (g : fw_G) (T : fw_T) (I : fw_I) (P : fw_P) : va_W := (List.range T.1).map fun a => (g.1 + a, fw_ent g I P a (T.2 a))
theorem fw_ws_get (g : fw_G) (T : fw_T) (I : fw_I) (P : fw_P) {a : Nat} (h : a < T.1) : (fw_ws g T I P)[a]? = some (g.1 + a, fw_ent g I P a (T.2 a)) := by
  simp [fw_ws, h]
theorem fw_ws_len (g : fw_G) (T : fw_T) (I : fw_I) (P : fw_P) : (fw_ws g T I P).length = T.1 := by simp [fw_ws]
def fw_A (g : fw_G) : Nat → Prop := fun q => g.1 ≤ q
theorem fw_D (g : fw_G) (T : fw_T) (I : fw_I) (P : fw_P) : va_D (fw_A g) (fw_ws g T I P) := by
  have key : ∀ (k : Nat) (q : Nat × va_E), (fw_ws g T I P)[k]? = some q → q.1 = g.1 + k := by
    intro k q h
    have hk : k < T.1 := by
      have := (List.getElem?_eq_some_iff.mp h).1
      rwa [fw_ws_len] at this
    rw [fw_ws_get g T I P hk] at h
    cases h
    rfl
  refine ⟨fun i j p q hi hj h => ?_, fun k q h => ?_⟩
  · have := key i p hi
    have := key j q hj
    omega
  · show g.1 ≤ q.1
    rw [key k q h]
    omega
theorem fw_ws_set (g : fw_G) (T : fw_T) (I I' : fw_I) (P P' : fw_P) {a : Nat} {e : va_E} (h : a < T.1) (he : fw_ent g I' P' a (T.2 a) = e) (hI : ∀ b, b ≠ a → I' b = I b) (hP : ∀ b, b ≠ a → P' b = P b) : (fw_ws g T I P).set a (g.1 + a, e) = fw_ws g T I' P' := by
  apply List.ext_getElem?
  intro j
  by_cases hj : j < T.1
  · rw [fw_ws_get g T I' P' hj]
    by_cases hja : j = a
    · subst hja
      rw [List.getElem?_set_self (by rw [fw_ws_len]; exact hj), he]
    · rw [List.getElem?_set_ne (fun q => hja q.symm), fw_ws_get g T I P hj]
      have e1 := hI j hja
      have e2 := hP j hja
      have : fw_ent g I P j (T.2 j) = fw_ent g I' P' j (T.2 j) := by
        unfold fw_ent fw_fs
        rw [e1, e2]
      rw [this]
  · rw [List.getElem?_eq_none (by rw [List.length_set, fw_ws_len]; omega), List.getElem?_eq_none (by rw [fw_ws_len]; omega)]
def fw_tys (g : fw_G) : List (ClassId × FieldType) := [(g.2.2 9, .int), (g.2.2 10, .boolean), (g.2.2 11, .object RX3), (g.2.2 12, .object RX2), (g.2.2 13, .object RX0), (g.2.2 14, .object RX6)]
def fw_nests : List (String × Nat × MethodName × String) := [(RX2, 17, yX0_init, RX7), (RX3, 24, yX6_init, RX7), (RX3, 100, yX7_landing, RX7), (RX5, 30, yX7_landing, RX7)]
def fw_aos : List String := [RX0, RX2, RX3, RX6]
def fw_K (g : fw_G) (U : State) : Prop := va_K g.2.1 vwCl (fw_tys g) U ∧ (∀ q ∈ fw_nests, va_Nw (.methodLinkNest q.1 q.2.1 q.2.2.1 q.2.2.2) U) ∧ ∀ q ∈ fw_aos, va_AO q U
theorem fw_K.warm {g : fw_G} {s U : State} (hW : s.WarmedH U.vm) (h : fw_K g s) : fw_K g U := ⟨va_K.moved hW.alike h.1, fun q hq => va_Nw.warmM hW (h.2.1 q hq), fun q hq => va_AO.moved hW.alike (h.2.2 q hq)⟩
theorem fw_K.blind {g : fw_G} {U : State} (f : JFrame) (mk : MethodId) (a : Array Value) (h : fw_K g U) : fw_K g (U.calling f mk a) := ⟨va_K.moved (u := U) (U := U.calling f mk a) (Vm.Alike.refl U.vm) h.1, fun q hq => va_Nw.same (u := U) rfl rfl (h.2.1 q hq), fun q hq => va_AO.moved (u := U) (U := U.calling f mk a) (Vm.Alike.refl U.vm) (h.2.2 q hq)⟩
def fw_U : List Cond := lw_tbl.filter goodWord
def fw_wsk (k : fw_M) : List Cond := .code k.1 k.2.1 k.2.2.1 k.2.2.2.1 :: fw_U
def fw_rm (k : fw_M) (mc ms : Nat) : Room := { frames := k.2.2.2.2.1, cells := mc, slots := ms, locals := k.2.2.2.2.2 }
theorem fw_U_good : GoodIn fw_U fw_U := fun w h => ⟨h, good_of_word (List.mem_filter.mp h).2⟩
theorem fw_wsk_good {k : fw_M} (h : Cond.code k.1 k.2.1 k.2.2.1 k.2.2.2.1 ∈ fw_U) : GoodIn fw_U (fw_wsk k) := fun w hw => by
  rcases List.mem_cons.mp hw with rfl | hw
  · exact fw_U_good _ h
  · exact fw_U_good _ hw
def fw_R (g : fw_G) (T : fw_T) (I : fw_I) (P : fw_P) (H : Heap) : Prop := va_P g.2.1 vwCl (fw_ws g T I P) H
def fw_post (g : fw_G) (T' : fw_T) (Q : Option Value → fw_I → fw_P → Prop) : Array Value → State → Outcome → State → Prop := fun _ st oc t =>
  (∃ (v : Option Value) (I : fw_I) (P : fw_P), oc = .returned v ∧ Q v I P ∧ fw_R g T' I P t.heap) ∧ va_F (fw_A g) st t
def fw_Pc (g : fw_G) (T : fw_T) (I : fw_I) (P : fw_P) (args : List Value) : Array Value → State → Prop := fun v U => v = args.toArray ∧ (U.heap.size = g.1 + T.1 ∧ fw_R g T I P U.heap) ∧ fw_K g U
theorem fw_blind (g : fw_G) (T : fw_T) (I : fw_I) (P : fw_P) (args : List Value) : FrameBlind (fw_Pc g T I P args) := fun a U f mk h => ⟨h.1, h.2.1, h.2.2.blind f mk a⟩
/-- a method's contract over flat memory -/
def Sp (l : Launch) (g : fw_G) (k : fw_M) (T : fw_T) (args : List Value) (I : fw_I) (P : fw_P) (T' : fw_T) (mc ms : Nat) (Q : Option Value → fw_I → fw_P → Prop) : Prop :=
  Met l k.1 (fw_wsk k) (fw_rm k mc ms) (fw_Pc g T I P args) (fw_post g T' Q) mc ms (fw_A g)
def fw_C (g : fw_G) (k : fw_M) (p : Program) (s : State) (m : MethodId) (args : Array Value) (meth : Method) (c : Code) : Prop :=
  CallFix p m c k.2.1 k.2.2.1 s args fw_U k.1.cls ∧ meth.sig.returnType = k.2.2.2.1 ∧ meth.locks = false ∧ meth.name = k.1.name ∧ g.1 ≤ s.heap.size
def fw_L (ls : Array Slot) (n : Nat) (L : List (Option Value)) : Prop := ls.size = n ∧ lv_wf ls ∧ ∀ (j : Nat) (v : Value), L[j]? = some (some v) → v.category = 1 ∧ ls[j]? = some (.val v)
theorem fw_L.has {ls : Array Slot} {n : Nat} {L : List (Option Value)} (h : fw_L ls n L) : lv_has ls n [] := ⟨h.1, h.2.1, fun q hq => absurd hq List.not_mem_nil⟩
theorem fw_L.set {ls ls' : Array Slot} {n i : Nat} {v : Value} {L : List (Option Value)} (h : fw_L ls n L) (hi : i < n) (hc : v.category = 1) (e : storeLocals ls i v = some ls') : fw_L ls' n (L.set i (some v)) := by
  have one : ∀ (j : Nat) (w : Value), w.category = 1 → ls[j]? = some (.val w) → lv_has ls' n ((i, v) :: [(j, w)].filter (fun q => !(q.1 == i) && !(q.1 + 1 == i && q.2.category == 2))) := by
    intro j w hw hj
    obtain ⟨l2, e2, h2⟩ := lv_store1 (v := v) (l := [(j, w)]) (ls := ls) (nL := n) ⟨h.1, h.2.1, fun q hq => by rw [List.mem_singleton.mp hq]; exact hj⟩ hi hc
    rw [e] at e2
    cases e2
    exact h2
  obtain ⟨l2, e2, h2⟩ := lv_store1 (v := v) h.has hi hc
  rw [e] at e2
  cases e2
  refine ⟨h2.1, h2.2.1, fun j w hj => ?_⟩
  by_cases hji : j = i
  · subst hji
    have hlt : j < L.length := by
      have := (List.getElem?_eq_some_iff.mp hj).1
      rwa [List.length_set] at this
    rw [List.getElem?_set_self hlt] at hj
    cases hj
    exact ⟨hc, h2.2.2 (j, v) List.mem_cons_self⟩
  · rw [List.getElem?_set_ne (fun q => hji q.symm)] at hj
    obtain ⟨a, b⟩ := h.2.2 j w hj
    refine ⟨a, (one j w a b).2.2 (j, w) (List.mem_cons_of_mem _ (List.mem_filter.mpr ⟨List.mem_cons_self, ?_⟩))⟩
    simp [hji, a]
/-- the walk: from this point of method k, over any heap that holds the memory, the method comes to its end as Q says -/
def V (l : Launch) (g : fw_G) (k : fw_M) (T' : fw_T) (mc ms : Nat) (Q : Option Value → fw_I → fw_P → Prop) (T : fw_T) (I : fw_I) (P : fw_P) (u w : Nat) (pc : Nat) (L : List (Option Value)) (st : List Value) : Prop :=
  ∀ (p : Program) (e : Env) (s : State) (m : MethodId) (args : Array Value) (below : List Frame) (meth : Method) (c : Code) (H : Heap) (locs : List Loc) (ls : Array Slot),
    (fw_C g k p s m args meth c ∧ s.heap.size + u = g.1 + T.1) → fw_K g s → fw_R g T I P H → va_S (fw_A g) s.heap H locs → fw_L ls k.2.2.1 L →
      W p l e (fw_rm k mc ms) s m args below meth c H locs u w (MQ below (fw_post g T' Q) args s mc ms (fw_A g)) (F0 m pc ls st)
theorem Sp.of_V {l : Launch} {g : fw_G} {k : fw_M} {T T' : fw_T} {as : List Value} {I : fw_I} {P : fw_P} {mc ms : Nat} {Q : Option Value → fw_I → fw_P → Prop} {L : List (Option Value)} (hy : plainName k.1.cls = true) (hcat : ∀ v ∈ as, v.category = 1) (hn : as.length ≤ k.2.2.1) (hL : as.map some ++ List.replicate (k.2.2.1 - as.length) none = L)
    (h : V l g k T' mc ms Q T I P 0 0 0 L []) : Sp l g k T as I P T' mc ms Q := by
  refine Met.ofW (cc := k.2.1) (maxL := k.2.2.1) (ret := k.2.2.2.1) hy rfl ?_
  intro p e s m args below meth c s₁ B hml hv
  obtain ⟨rfl, ⟨hz, hR⟩, hK⟩ := hv
  have hts := atoms_spec (ws := fw_wsk k) B.pre
  have hsl : lg_sl as = as.map Slot.val := by
    clear hL hn h hz hR hK hts B
    induction as with
    | nil => rfl
    | cons v t ih =>
      have h1 : v.category = 1 := hcat v List.mem_cons_self
      have h2 := ih (fun w hw => hcat w (List.mem_cons_of_mem _ hw))
      simp only [lg_sl, List.flatMap_cons, h1, List.map_cons] at h2 ⊢
      rw [h2]
      rfl
  have hle : (lg_sl as).length ≤ k.2.2.1 := by rw [hsl, List.length_map]; exact hn
  have hl := lv_entry as (n := k.2.2.1) hle
  rw [lg_entry_eq]
  refine h p e s m _ below meth c s.heap [] _ ⟨⟨⟨B.exec, B.bytes, hml, findClass_of_methodNamed B.named, fun w hw => hts w (List.mem_cons_of_mem _ hw)⟩, B.returns, B.notSynchronized, (name_of_methodNamed B.named B.method).1, by omega⟩, hz⟩ hK hR va_S.rf ⟨hl.1, hl.2.1, fun j v hj => ?_⟩
  rw [← hL] at hj
  have hjl : j < as.length := by
    rcases Nat.lt_or_ge j as.length with q | q
    · exact q
    · rw [List.getElem?_append_right (by simpa using q)] at hj
      have := List.eq_of_mem_replicate (List.mem_of_getElem? hj)
      cases this
  rw [List.getElem?_append_left (by simpa using hjl), List.getElem?_map] at hj
  cases ha : as[j]? with
  | none => rw [ha] at hj; cases hj
  | some v' =>
    rw [ha] at hj
    cases hj
    refine ⟨hcat _ (List.mem_of_getElem? ha), ?_⟩
    rw [hsl, List.getElem?_toArray, List.getElem?_append_left (by simpa using hjl), List.getElem?_map, ha]
    rfl
end
section
/-! ROWS of the walk over flat memory: one an instruction -/
section FWR
variable {l : Launch} {g : fw_G} {k : fw_M} {T T' : fw_T} {mc ms : Nat} {Q : Option Value → fw_I → fw_P → Prop} {I : fw_I} {P : fw_P} {u w pc q : Nat} {L L' : List (Option Value)} {st : List Value}

theorem V_iconst {n : Int} {v : Int32} (hv : Int32.ofInt n = v) (hd : decode k.2.1 pc = .ok (.iconst n, 1)) (hq : pc + 1 = q) (kk : V l g k T' mc ms Q T I P u w q L (.int v :: st)) : V l g k T' mc ms Q T I P u w pc L (st) := by
  subst hq
  intro p e s m args below meth c H locs ls hC hK hR hS hL
  exact lv_iconst hC.1.1.1 hC.1.1.2.1 hd hv (kk p e s m args below meth c H locs ls hC hK hR hS hL)
theorem V_bipush {n : Int} {v : Int32} (hv : (Int8.ofInt n).toInt32 = v) (hd : decode k.2.1 pc = .ok (.bipush n, 2)) (hq : pc + 2 = q) (kk : V l g k T' mc ms Q T I P u w q L (.int v :: st)) : V l g k T' mc ms Q T I P u w pc L (st) := by
  subst hq
  intro p e s m args below meth c H locs ls hC hK hR hS hL
  exact lv_bipush hC.1.1.1 hC.1.1.2.1 hd hv (kk p e s m args below meth c H locs ls hC hK hR hS hL)
theorem V_sipush {n : Int} {v : Int32} (hv : (Int16.ofInt n).toInt32 = v) (hd : decode k.2.1 pc = .ok (.sipush n, 3)) (hq : pc + 3 = q) (kk : V l g k T' mc ms Q T I P u w q L (.int v :: st)) : V l g k T' mc ms Q T I P u w pc L (st) := by
  subst hq
  intro p e s m args below meth c H locs ls hC hK hR hS hL
  exact lv_sipush hC.1.1.1 hC.1.1.2.1 hd hv (kk p e s m args below meth c H locs ls hC hK hR hS hL)
theorem V_iadd {x y : Int32} (hd : decode k.2.1 pc = .ok (.iadd, 1)) (hq : pc + 1 = q) (kk : V l g k T' mc ms Q T I P u w q L (.int (x + y) :: st)) : V l g k T' mc ms Q T I P u w pc L (.int y :: .int x :: st) := by
  subst hq
  intro p e s m args below meth c H locs ls hC hK hR hS hL
  exact lv_iadd hC.1.1.1 hC.1.1.2.1 hd (kk p e s m args below meth c H locs ls hC hK hR hS hL)
theorem V_isub {x y : Int32} (hd : decode k.2.1 pc = .ok (.isub, 1)) (hq : pc + 1 = q) (kk : V l g k T' mc ms Q T I P u w q L (.int (x - y) :: st)) : V l g k T' mc ms Q T I P u w pc L (.int y :: .int x :: st) := by
  subst hq
  intro p e s m args below meth c H locs ls hC hK hR hS hL
  exact lv_isub hC.1.1.1 hC.1.1.2.1 hd (kk p e s m args below meth c H locs ls hC hK hR hS hL)
theorem V_imul {x y : Int32} (hd : decode k.2.1 pc = .ok (.imul, 1)) (hq : pc + 1 = q) (kk : V l g k T' mc ms Q T I P u w q L (.int (x * y) :: st)) : V l g k T' mc ms Q T I P u w pc L (.int y :: .int x :: st) := by
  subst hq
  intro p e s m args below meth c H locs ls hC hK hR hS hL
  exact lv_imul hC.1.1.1 hC.1.1.2.1 hd (kk p e s m args below meth c H locs ls hC hK hR hS hL)
theorem V_iand {x y : Int32} (hd : decode k.2.1 pc = .ok (.iand, 1)) (hq : pc + 1 = q) (kk : V l g k T' mc ms Q T I P u w q L (.int (x &&& y) :: st)) : V l g k T' mc ms Q T I P u w pc L (.int y :: .int x :: st) := by
  subst hq
  intro p e s m args below meth c H locs ls hC hK hR hS hL
  exact lv_iand hC.1.1.1 hC.1.1.2.1 hd (kk p e s m args below meth c H locs ls hC hK hR hS hL)
theorem V_ior {x y : Int32} (hd : decode k.2.1 pc = .ok (.ior, 1)) (hq : pc + 1 = q) (kk : V l g k T' mc ms Q T I P u w q L (.int (x ||| y) :: st)) : V l g k T' mc ms Q T I P u w pc L (.int y :: .int x :: st) := by
  subst hq
  intro p e s m args below meth c H locs ls hC hK hR hS hL
  exact lv_ior hC.1.1.1 hC.1.1.2.1 hd (kk p e s m args below meth c H locs ls hC hK hR hS hL)
theorem V_ixor {x y : Int32} (hd : decode k.2.1 pc = .ok (.ixor, 1)) (hq : pc + 1 = q) (kk : V l g k T' mc ms Q T I P u w q L (.int (x ^^^ y) :: st)) : V l g k T' mc ms Q T I P u w pc L (.int y :: .int x :: st) := by
  subst hq
  intro p e s m args below meth c H locs ls hC hK hR hS hL
  exact lv_ixor hC.1.1.1 hC.1.1.2.1 hd (kk p e s m args below meth c H locs ls hC hK hR hS hL)
theorem V_ishl {x y : Int32} (hd : decode k.2.1 pc = .ok (.ishl, 1)) (hq : pc + 1 = q) (kk : V l g k T' mc ms Q T I P u w q L (.int (x <<< (y &&& 31)) :: st)) : V l g k T' mc ms Q T I P u w pc L (.int y :: .int x :: st) := by
  subst hq
  intro p e s m args below meth c H locs ls hC hK hR hS hL
  exact lv_ishl hC.1.1.1 hC.1.1.2.1 hd (kk p e s m args below meth c H locs ls hC hK hR hS hL)
theorem V_ishr {x y : Int32} (hd : decode k.2.1 pc = .ok (.ishr, 1)) (hq : pc + 1 = q) (kk : V l g k T' mc ms Q T I P u w q L (.int (x >>> (y &&& 31)) :: st)) : V l g k T' mc ms Q T I P u w pc L (.int y :: .int x :: st) := by
  subst hq
  intro p e s m args below meth c H locs ls hC hK hR hS hL
  exact lv_ishr hC.1.1.1 hC.1.1.2.1 hd (kk p e s m args below meth c H locs ls hC hK hR hS hL)
theorem V_ineg {x : Int32} (hd : decode k.2.1 pc = .ok (.ineg, 1)) (hq : pc + 1 = q) (kk : V l g k T' mc ms Q T I P u w q L (.int (-x) :: st)) : V l g k T' mc ms Q T I P u w pc L (.int x :: st) := by
  subst hq
  intro p e s m args below meth c H locs ls hC hK hR hS hL
  exact lv_ineg hC.1.1.1 hC.1.1.2.1 hd (kk p e s m args below meth c H locs ls hC hK hR hS hL)
theorem V_idiv {x y : Int32} (hne : ¬ y = 0) (hd : decode k.2.1 pc = .ok (.idiv, 1)) (hq : pc + 1 = q) (kk : V l g k T' mc ms Q T I P u w q L (.int (x / y) :: st)) : V l g k T' mc ms Q T I P u w pc L (.int y :: .int x :: st) := by
  subst hq
  intro p e s m args below meth c H locs ls hC hK hR hS hL
  exact lv_idiv hC.1.1.1 hC.1.1.2.1 hd hne (kk p e s m args below meth c H locs ls hC hK hR hS hL)
theorem V_irem {x y : Int32} (hne : ¬ y = 0) (hd : decode k.2.1 pc = .ok (.irem, 1)) (hq : pc + 1 = q) (kk : V l g k T' mc ms Q T I P u w q L (.int (x - x / y * y) :: st)) : V l g k T' mc ms Q T I P u w pc L (.int y :: .int x :: st) := by
  subst hq
  intro p e s m args below meth c H locs ls hC hK hR hS hL
  exact lv_irem hC.1.1.1 hC.1.1.2.1 hd hne (kk p e s m args below meth c H locs ls hC hK hR hS hL)
theorem V_dup {v : Value} (hc : v.category = 1) (hd : decode k.2.1 pc = .ok (.dup, 1)) (hq : pc + 1 = q) (kk : V l g k T' mc ms Q T I P u w q L (v :: v :: st)) : V l g k T' mc ms Q T I P u w pc L (v :: st) := by
  subst hq
  intro p e s m args below meth c H locs ls hC hK hR hS hL
  exact lv_dup hC.1.1.1 hC.1.1.2.1 hd hc (kk p e s m args below meth c H locs ls hC hK hR hS hL)
theorem V_pop {v : Value} (hc : v.category = 1) (hd : decode k.2.1 pc = .ok (.pop, 1)) (hq : pc + 1 = q) (kk : V l g k T' mc ms Q T I P u w q L (st)) : V l g k T' mc ms Q T I P u w pc L (v :: st) := by
  subst hq
  intro p e s m args below meth c H locs ls hC hK hR hS hL
  exact lv_pop hC.1.1.1 hC.1.1.2.1 hd hc (kk p e s m args below meth c H locs ls hC hK hR hS hL)
theorem V_dup2 {v v2 : Value} (hc : v.category = 1) (hc2 : v2.category = 1) (hd : decode k.2.1 pc = .ok (.dup2, 1)) (hq : pc + 1 = q) (kk : V l g k T' mc ms Q T I P u w q L (v :: v2 :: v :: v2 :: st)) : V l g k T' mc ms Q T I P u w pc L (v :: v2 :: st) := by
  subst hq
  intro p e s m args below meth c H locs ls hC hK hR hS hL
  exact lv_dup2_11 hC.1.1.1 hC.1.1.2.1 hd hc hc2 (kk p e s m args below meth c H locs ls hC hK hR hS hL)
theorem V_dup_x1 {v v2 : Value} (hc : v.category = 1) (hc2 : v2.category = 1) (hd : decode k.2.1 pc = .ok (.dup_x1, 1)) (hq : pc + 1 = q) (kk : V l g k T' mc ms Q T I P u w q L (v :: v2 :: v :: st)) : V l g k T' mc ms Q T I P u w pc L (v :: v2 :: st) := by
  subst hq
  intro p e s m args below meth c H locs ls hC hK hR hS hL
  exact lv_dup_x1 hC.1.1.1 hC.1.1.2.1 hd hc hc2 (kk p e s m args below meth c H locs ls hC hK hR hS hL)
theorem V_null  (hd : decode k.2.1 pc = .ok (.aconst_null, 1)) (hq : pc + 1 = q) (kk : V l g k T' mc ms Q T I P u w q L (fw_rf g none :: st)) : V l g k T' mc ms Q T I P u w pc L (st) := by
  subst hq
  intro p e s m args below meth c H locs ls hC hK hR hS hL
  exact lv_null hC.1.1.1 hC.1.1.2.1 hd (kk p e s m args below meth c H locs ls hC hK hR hS hL)
theorem V_ldc {i : Nat} {v : Int32} (hw : Cond.constant k.1.cls i v ∈ fw_U) (hd : decode k.2.1 pc = .ok (.ldc i, 2)) (hq : pc + 2 = q) (kk : V l g k T' mc ms Q T I P u w q L (.int v :: st)) : V l g k T' mc ms Q T I P u w pc L (st) := by
  subst hq
  intro p e s m args below meth c H locs ls hC hK hR hS hL
  exact lv_ldc hC.1.1.1 hC.1.1.2.1 hC.1.1.2.2.2.1 (hC.1.1.2.2.2.2 _ hw) hd (kk p e s m args below meth c H locs ls hC hK hR hS hL)
theorem V_iload_n {n : Fin 4} {i : Nat} {x : Int32} (hi : (n : Nat) = i) (hl : L[i]? = some (some (.int x))) (hd : decode k.2.1 pc = .ok (.iload_n n, 1)) (hq : pc + 1 = q) (kk : V l g k T' mc ms Q T I P u w q L (.int x :: st)) : V l g k T' mc ms Q T I P u w pc L (st) := by
  subst hq
  intro p e s m args below meth c H locs ls hC hK hR hS hL
  exact lv_iload_n hC.1.1.1 hC.1.1.2.1 hd hi (hL.2.2 _ _ hl).2 (kk p e s m args below meth c H locs ls hC hK hR hS hL)
theorem V_iload {i : Nat} {x : Int32} (hl : L[i]? = some (some (.int x))) (hd : decode k.2.1 pc = .ok (.iload i, 2)) (hq : pc + 2 = q) (kk : V l g k T' mc ms Q T I P u w q L (.int x :: st)) : V l g k T' mc ms Q T I P u w pc L (st) := by
  subst hq
  intro p e s m args below meth c H locs ls hC hK hR hS hL
  exact lv_iload hC.1.1.1 hC.1.1.2.1 hd (hL.2.2 _ _ hl).2 (kk p e s m args below meth c H locs ls hC hK hR hS hL)
theorem V_aload_n {n : Fin 4} {i a : Nat} (hi : (n : Nat) = i) (hl : L[i]? = some (some (.ref a))) (hd : decode k.2.1 pc = .ok (.aload_n n, 1)) (hq : pc + 1 = q) (kk : V l g k T' mc ms Q T I P u w q L (.ref a :: st)) : V l g k T' mc ms Q T I P u w pc L (st) := by
  subst hq
  intro p e s m args below meth c H locs ls hC hK hR hS hL
  exact lv_aload_n hC.1.1.1 hC.1.1.2.1 hd hi (hL.2.2 _ _ hl).2 (kk p e s m args below meth c H locs ls hC hK hR hS hL)
theorem V_aload {i a : Nat} (hl : L[i]? = some (some (.ref a))) (hd : decode k.2.1 pc = .ok (.aload i, 2)) (hq : pc + 2 = q) (kk : V l g k T' mc ms Q T I P u w q L (.ref a :: st)) : V l g k T' mc ms Q T I P u w pc L (st) := by
  subst hq
  intro p e s m args below meth c H locs ls hC hK hR hS hL
  exact lv_aload hC.1.1.1 hC.1.1.2.1 hd (hL.2.2 _ _ hl).2 (kk p e s m args below meth c H locs ls hC hK hR hS hL)
theorem V_aload_nr {n : Fin 4} {i : Nat} {r : Option Nat} (hi : (n : Nat) = i) (hl : L[i]? = some (some (fw_rf g r))) (hd : decode k.2.1 pc = .ok (.aload_n n, 1)) (hq : pc + 1 = q) (kk : V l g k T' mc ms Q T I P u w q L (fw_rf g r :: st)) : V l g k T' mc ms Q T I P u w pc L (st) := by
  subst hq
  intro p e s m args below meth c H locs ls hC hK hR hS hL
  cases r with
  | none => exact lv_aload_nN hC.1.1.1 hC.1.1.2.1 hd hi (hL.2.2 _ _ hl).2 (kk p e s m args below meth c H locs ls hC hK hR hS hL)
  | some a => exact lv_aload_n hC.1.1.1 hC.1.1.2.1 hd hi (hL.2.2 _ _ hl).2 (kk p e s m args below meth c H locs ls hC hK hR hS hL)
theorem V_aload_r {i : Nat} {r : Option Nat} (hl : L[i]? = some (some (fw_rf g r))) (hd : decode k.2.1 pc = .ok (.aload i, 2)) (hq : pc + 2 = q) (kk : V l g k T' mc ms Q T I P u w q L (fw_rf g r :: st)) : V l g k T' mc ms Q T I P u w pc L (st) := by
  subst hq
  intro p e s m args below meth c H locs ls hC hK hR hS hL
  cases r with
  | none => exact lv_aloadN hC.1.1.1 hC.1.1.2.1 hd (hL.2.2 _ _ hl).2 (kk p e s m args below meth c H locs ls hC hK hR hS hL)
  | some a => exact lv_aload hC.1.1.1 hC.1.1.2.1 hd (hL.2.2 _ _ hl).2 (kk p e s m args below meth c H locs ls hC hK hR hS hL)
theorem V_istore_n {n : Fin 4} {i : Nat} {x : Int32} (hi : (n : Nat) = i) (hn : i < k.2.2.1) (hL' : L.set i (some (.int x)) = L') (hd : decode k.2.1 pc = .ok (.istore_n n, 1)) (hq : pc + 1 = q) (kk : V l g k T' mc ms Q T I P u w q L' st) : V l g k T' mc ms Q T I P u w pc L ((.int x) :: st) := by
  subst hq
  subst hL'
  subst hi
  intro p e s m args below meth c H locs ls hC hK hR hS hL
  obtain ⟨ls', e', h'⟩ := lv_store1 (v := (.int x)) hL.has hn rfl
  have kk := kk p e s m args below meth c H locs ls' hC hK hR hS (hL.set hn rfl e')
  intro T0 hT X
  obtain ⟨t, a1, b1⟩ := kk T0 hT X
  refine ⟨t, ?_, b1⟩
  jvm_step X.here [X.here.top, ↓top_set X.here.top, hC.1.1.1, hC.1.1.2.1, hd, e', Value.isRef]
  exact a1
theorem V_istore {i : Nat} {x : Int32} (hn : i < k.2.2.1) (hL' : L.set i (some (.int x)) = L') (hd : decode k.2.1 pc = .ok (.istore i, 2)) (hq : pc + 2 = q) (kk : V l g k T' mc ms Q T I P u w q L' st) : V l g k T' mc ms Q T I P u w pc L ((.int x) :: st) := by
  subst hq
  subst hL'
  intro p e s m args below meth c H locs ls hC hK hR hS hL
  obtain ⟨ls', e', h'⟩ := lv_store1 (v := (.int x)) hL.has hn rfl
  have kk := kk p e s m args below meth c H locs ls' hC hK hR hS (hL.set hn rfl e')
  intro T0 hT X
  obtain ⟨t, a1, b1⟩ := kk T0 hT X
  refine ⟨t, ?_, b1⟩
  jvm_step X.here [X.here.top, ↓top_set X.here.top, hC.1.1.1, hC.1.1.2.1, hd, e', Value.isRef]
  exact a1
theorem V_astore_n {n : Fin 4} {i a : Nat} (hi : (n : Nat) = i) (hn : i < k.2.2.1) (hL' : L.set i (some (.ref a)) = L') (hd : decode k.2.1 pc = .ok (.astore_n n, 1)) (hq : pc + 1 = q) (kk : V l g k T' mc ms Q T I P u w q L' st) : V l g k T' mc ms Q T I P u w pc L ((.ref a) :: st) := by
  subst hq
  subst hL'
  subst hi
  intro p e s m args below meth c H locs ls hC hK hR hS hL
  obtain ⟨ls', e', h'⟩ := lv_store1 (v := (.ref a)) hL.has hn rfl
  have kk := kk p e s m args below meth c H locs ls' hC hK hR hS (hL.set hn rfl e')
  intro T0 hT X
  obtain ⟨t, a1, b1⟩ := kk T0 hT X
  refine ⟨t, ?_, b1⟩
  jvm_step X.here [X.here.top, ↓top_set X.here.top, hC.1.1.1, hC.1.1.2.1, hd, e', Value.isRef]
  exact a1
theorem V_astore {i a : Nat} (hn : i < k.2.2.1) (hL' : L.set i (some (.ref a)) = L') (hd : decode k.2.1 pc = .ok (.astore i, 2)) (hq : pc + 2 = q) (kk : V l g k T' mc ms Q T I P u w q L' st) : V l g k T' mc ms Q T I P u w pc L ((.ref a) :: st) := by
  subst hq
  subst hL'
  intro p e s m args below meth c H locs ls hC hK hR hS hL
  obtain ⟨ls', e', h'⟩ := lv_store1 (v := (.ref a)) hL.has hn rfl
  have kk := kk p e s m args below meth c H locs ls' hC hK hR hS (hL.set hn rfl e')
  intro T0 hT X
  obtain ⟨t, a1, b1⟩ := kk T0 hT X
  refine ⟨t, ?_, b1⟩
  jvm_step X.here [X.here.top, ↓top_set X.here.top, hC.1.1.1, hC.1.1.2.1, hd, e', Value.isRef]
  exact a1
theorem V_astore_nN {n : Fin 4} {i : Nat} (hi : (n : Nat) = i) (hn : i < k.2.2.1) (hL' : L.set i (some (.null)) = L') (hd : decode k.2.1 pc = .ok (.astore_n n, 1)) (hq : pc + 1 = q) (kk : V l g k T' mc ms Q T I P u w q L' st) : V l g k T' mc ms Q T I P u w pc L ((.null) :: st) := by
  subst hq
  subst hL'
  subst hi
  intro p e s m args below meth c H locs ls hC hK hR hS hL
  obtain ⟨ls', e', h'⟩ := lv_store1 (v := (.null)) hL.has hn rfl
  have kk := kk p e s m args below meth c H locs ls' hC hK hR hS (hL.set hn rfl e')
  intro T0 hT X
  obtain ⟨t, a1, b1⟩ := kk T0 hT X
  refine ⟨t, ?_, b1⟩
  jvm_step X.here [X.here.top, ↓top_set X.here.top, hC.1.1.1, hC.1.1.2.1, hd, e', Value.isRef]
  exact a1
theorem V_astoreN {i : Nat} (hn : i < k.2.2.1) (hL' : L.set i (some (.null)) = L') (hd : decode k.2.1 pc = .ok (.astore i, 2)) (hq : pc + 2 = q) (kk : V l g k T' mc ms Q T I P u w q L' st) : V l g k T' mc ms Q T I P u w pc L ((.null) :: st) := by
  subst hq
  subst hL'
  intro p e s m args below meth c H locs ls hC hK hR hS hL
  obtain ⟨ls', e', h'⟩ := lv_store1 (v := (.null)) hL.has hn rfl
  have kk := kk p e s m args below meth c H locs ls' hC hK hR hS (hL.set hn rfl e')
  intro T0 hT X
  obtain ⟨t, a1, b1⟩ := kk T0 hT X
  refine ⟨t, ?_, b1⟩
  jvm_step X.here [X.here.top, ↓top_set X.here.top, hC.1.1.1, hC.1.1.2.1, hd, e', Value.isRef]
  exact a1
theorem V_astore_nr {n : Fin 4} {i : Nat} {r : Option Nat} (hi : (n : Nat) = i) (hn : i < k.2.2.1) (hL' : L.set i (some (fw_rf g r)) = L') (hd : decode k.2.1 pc = .ok (.astore_n n, 1)) (hq : pc + 1 = q) (kk : V l g k T' mc ms Q T I P u w q L' st) : V l g k T' mc ms Q T I P u w pc L (fw_rf g r :: st) := by
  cases r with
  | none => exact V_astore_nN hi hn hL' hd hq kk
  | some a => exact V_astore_n hi hn hL' hd hq kk
theorem V_astore_r {i : Nat} {r : Option Nat} (hn : i < k.2.2.1) (hL' : L.set i (some (fw_rf g r)) = L') (hd : decode k.2.1 pc = .ok (.astore i, 2)) (hq : pc + 2 = q) (kk : V l g k T' mc ms Q T I P u w q L' st) : V l g k T' mc ms Q T I P u w pc L (fw_rf g r :: st) := by
  cases r with
  | none => exact V_astoreN hn hL' hd hq kk
  | some a => exact V_astore hn hL' hd hq kk
theorem V_iinc {i : Nat} {n : Int} {x v : Int32} (hl : L[i]? = some (some (.int x))) (hv : x + Int32.ofInt n = v) (hn : i < k.2.2.1) (hL' : L.set i (some (.int v)) = L') (hd : decode k.2.1 pc = .ok (.iinc i n, 3)) (hq : pc + 3 = q) (kk : V l g k T' mc ms Q T I P u w q L' st) : V l g k T' mc ms Q T I P u w pc L st := by
  subst hq
  subst hL'
  subst hv
  intro p e s m args below meth c H locs ls hC hK hR hS hL
  obtain ⟨ls', e', h'⟩ := lv_store1 (v := .int (x + Int32.ofInt n)) hL.has hn rfl
  have hg := (hL.2.2 _ _ hl).2
  have kk := kk p e s m args below meth c H locs ls' hC hK hR hS (hL.set hn rfl e')
  intro T0 hT X
  obtain ⟨t, a1, b1⟩ := kk T0 hT X
  refine ⟨t, ?_, b1⟩
  jvm_step X.here [X.here.top, ↓top_set X.here.top, hC.1.1.1, hC.1.1.2.1, hd, hg, e']
  exact a1
theorem V_icmp_eq {x y : Int32} {off : Int} {tgt : Nat} (hd : decode k.2.1 pc = .ok (.if_icmp .eq off, 3)) (ht : (pc : Int) + off = (tgt : Int)) (hq : pc + 3 = q) (kt : x = y → V l g k T' mc ms Q T I P u w tgt L st) (kf : ¬ x = y → V l g k T' mc ms Q T I P u w q L st) : V l g k T' mc ms Q T I P u w pc L (.int y :: .int x :: st) := by
  subst hq
  intro p e s m args below meth c H locs ls hC hK hR hS hL
  exact lv_icmp_eq hC.1.1.1 hC.1.1.2.1 hd ht (fun h => kt h p e s m args below meth c H locs ls hC hK hR hS hL) (fun h => kf h p e s m args below meth c H locs ls hC hK hR hS hL)
theorem V_if_eq {x : Int32} {off : Int} {tgt : Nat} (hd : decode k.2.1 pc = .ok (.ifCond .eq off, 3)) (ht : (pc : Int) + off = (tgt : Int)) (hq : pc + 3 = q) (kt : x = 0 → V l g k T' mc ms Q T I P u w tgt L st) (kf : ¬ x = 0 → V l g k T' mc ms Q T I P u w q L st) : V l g k T' mc ms Q T I P u w pc L (.int x :: st) := by
  subst hq
  intro p e s m args below meth c H locs ls hC hK hR hS hL
  exact lv_if_eq hC.1.1.1 hC.1.1.2.1 hd ht (fun h => kt h p e s m args below meth c H locs ls hC hK hR hS hL) (fun h => kf h p e s m args below meth c H locs ls hC hK hR hS hL)
theorem V_icmp_ne {x y : Int32} {off : Int} {tgt : Nat} (hd : decode k.2.1 pc = .ok (.if_icmp .ne off, 3)) (ht : (pc : Int) + off = (tgt : Int)) (hq : pc + 3 = q) (kt : ¬ x = y → V l g k T' mc ms Q T I P u w tgt L st) (kf : x = y → V l g k T' mc ms Q T I P u w q L st) : V l g k T' mc ms Q T I P u w pc L (.int y :: .int x :: st) := by
  subst hq
  intro p e s m args below meth c H locs ls hC hK hR hS hL
  exact lv_icmp_ne hC.1.1.1 hC.1.1.2.1 hd ht (fun h => kt h p e s m args below meth c H locs ls hC hK hR hS hL) (fun h => kf h p e s m args below meth c H locs ls hC hK hR hS hL)
theorem V_if_ne {x : Int32} {off : Int} {tgt : Nat} (hd : decode k.2.1 pc = .ok (.ifCond .ne off, 3)) (ht : (pc : Int) + off = (tgt : Int)) (hq : pc + 3 = q) (kt : ¬ x = 0 → V l g k T' mc ms Q T I P u w tgt L st) (kf : x = 0 → V l g k T' mc ms Q T I P u w q L st) : V l g k T' mc ms Q T I P u w pc L (.int x :: st) := by
  subst hq
  intro p e s m args below meth c H locs ls hC hK hR hS hL
  exact lv_if_ne hC.1.1.1 hC.1.1.2.1 hd ht (fun h => kt h p e s m args below meth c H locs ls hC hK hR hS hL) (fun h => kf h p e s m args below meth c H locs ls hC hK hR hS hL)
theorem V_icmp_lt {x y : Int32} {off : Int} {tgt : Nat} (hd : decode k.2.1 pc = .ok (.if_icmp .lt off, 3)) (ht : (pc : Int) + off = (tgt : Int)) (hq : pc + 3 = q) (kt : x < y → V l g k T' mc ms Q T I P u w tgt L st) (kf : ¬ x < y → V l g k T' mc ms Q T I P u w q L st) : V l g k T' mc ms Q T I P u w pc L (.int y :: .int x :: st) := by
  subst hq
  intro p e s m args below meth c H locs ls hC hK hR hS hL
  exact lv_icmp_lt hC.1.1.1 hC.1.1.2.1 hd ht (fun h => kt h p e s m args below meth c H locs ls hC hK hR hS hL) (fun h => kf h p e s m args below meth c H locs ls hC hK hR hS hL)
theorem V_if_lt {x : Int32} {off : Int} {tgt : Nat} (hd : decode k.2.1 pc = .ok (.ifCond .lt off, 3)) (ht : (pc : Int) + off = (tgt : Int)) (hq : pc + 3 = q) (kt : x < 0 → V l g k T' mc ms Q T I P u w tgt L st) (kf : ¬ x < 0 → V l g k T' mc ms Q T I P u w q L st) : V l g k T' mc ms Q T I P u w pc L (.int x :: st) := by
  subst hq
  intro p e s m args below meth c H locs ls hC hK hR hS hL
  exact lv_if_lt hC.1.1.1 hC.1.1.2.1 hd ht (fun h => kt h p e s m args below meth c H locs ls hC hK hR hS hL) (fun h => kf h p e s m args below meth c H locs ls hC hK hR hS hL)
theorem V_icmp_ge {x y : Int32} {off : Int} {tgt : Nat} (hd : decode k.2.1 pc = .ok (.if_icmp .ge off, 3)) (ht : (pc : Int) + off = (tgt : Int)) (hq : pc + 3 = q) (kt : y ≤ x → V l g k T' mc ms Q T I P u w tgt L st) (kf : ¬ y ≤ x → V l g k T' mc ms Q T I P u w q L st) : V l g k T' mc ms Q T I P u w pc L (.int y :: .int x :: st) := by
  subst hq
  intro p e s m args below meth c H locs ls hC hK hR hS hL
  exact lv_icmp_ge hC.1.1.1 hC.1.1.2.1 hd ht (fun h => kt h p e s m args below meth c H locs ls hC hK hR hS hL) (fun h => kf h p e s m args below meth c H locs ls hC hK hR hS hL)
theorem V_if_ge {x : Int32} {off : Int} {tgt : Nat} (hd : decode k.2.1 pc = .ok (.ifCond .ge off, 3)) (ht : (pc : Int) + off = (tgt : Int)) (hq : pc + 3 = q) (kt : 0 ≤ x → V l g k T' mc ms Q T I P u w tgt L st) (kf : ¬ 0 ≤ x → V l g k T' mc ms Q T I P u w q L st) : V l g k T' mc ms Q T I P u w pc L (.int x :: st) := by
  subst hq
  intro p e s m args below meth c H locs ls hC hK hR hS hL
  exact lv_if_ge hC.1.1.1 hC.1.1.2.1 hd ht (fun h => kt h p e s m args below meth c H locs ls hC hK hR hS hL) (fun h => kf h p e s m args below meth c H locs ls hC hK hR hS hL)
theorem V_icmp_gt {x y : Int32} {off : Int} {tgt : Nat} (hd : decode k.2.1 pc = .ok (.if_icmp .gt off, 3)) (ht : (pc : Int) + off = (tgt : Int)) (hq : pc + 3 = q) (kt : y < x → V l g k T' mc ms Q T I P u w tgt L st) (kf : ¬ y < x → V l g k T' mc ms Q T I P u w q L st) : V l g k T' mc ms Q T I P u w pc L (.int y :: .int x :: st) := by
  subst hq
  intro p e s m args below meth c H locs ls hC hK hR hS hL
  exact lv_icmp_gt hC.1.1.1 hC.1.1.2.1 hd ht (fun h => kt h p e s m args below meth c H locs ls hC hK hR hS hL) (fun h => kf h p e s m args below meth c H locs ls hC hK hR hS hL)
theorem V_if_gt {x : Int32} {off : Int} {tgt : Nat} (hd : decode k.2.1 pc = .ok (.ifCond .gt off, 3)) (ht : (pc : Int) + off = (tgt : Int)) (hq : pc + 3 = q) (kt : 0 < x → V l g k T' mc ms Q T I P u w tgt L st) (kf : ¬ 0 < x → V l g k T' mc ms Q T I P u w q L st) : V l g k T' mc ms Q T I P u w pc L (.int x :: st) := by
  subst hq
  intro p e s m args below meth c H locs ls hC hK hR hS hL
  exact lv_if_gt hC.1.1.1 hC.1.1.2.1 hd ht (fun h => kt h p e s m args below meth c H locs ls hC hK hR hS hL) (fun h => kf h p e s m args below meth c H locs ls hC hK hR hS hL)
theorem V_icmp_le {x y : Int32} {off : Int} {tgt : Nat} (hd : decode k.2.1 pc = .ok (.if_icmp .le off, 3)) (ht : (pc : Int) + off = (tgt : Int)) (hq : pc + 3 = q) (kt : x ≤ y → V l g k T' mc ms Q T I P u w tgt L st) (kf : ¬ x ≤ y → V l g k T' mc ms Q T I P u w q L st) : V l g k T' mc ms Q T I P u w pc L (.int y :: .int x :: st) := by
  subst hq
  intro p e s m args below meth c H locs ls hC hK hR hS hL
  exact lv_icmp_le hC.1.1.1 hC.1.1.2.1 hd ht (fun h => kt h p e s m args below meth c H locs ls hC hK hR hS hL) (fun h => kf h p e s m args below meth c H locs ls hC hK hR hS hL)
theorem V_if_le {x : Int32} {off : Int} {tgt : Nat} (hd : decode k.2.1 pc = .ok (.ifCond .le off, 3)) (ht : (pc : Int) + off = (tgt : Int)) (hq : pc + 3 = q) (kt : x ≤ 0 → V l g k T' mc ms Q T I P u w tgt L st) (kf : ¬ x ≤ 0 → V l g k T' mc ms Q T I P u w q L st) : V l g k T' mc ms Q T I P u w pc L (.int x :: st) := by
  subst hq
  intro p e s m args below meth c H locs ls hC hK hR hS hL
  exact lv_if_le hC.1.1.1 hC.1.1.2.1 hd ht (fun h => kt h p e s m args below meth c H locs ls hC hK hR hS hL) (fun h => kf h p e s m args below meth c H locs ls hC hK hR hS hL)
theorem V_goto {off : Int} {tgt : Nat} (hd : decode k.2.1 pc = .ok (.goto off, 3)) (ht : (pc : Int) + off = (tgt : Int)) (kk : V l g k T' mc ms Q T I P u w tgt L st) : V l g k T' mc ms Q T I P u w pc L st := by
  intro p e s m args below meth c H locs ls hC hK hR hS hL
  exact lv_goto hC.1.1.1 hC.1.1.2.1 hd ht (kk p e s m args below meth c H locs ls hC hK hR hS hL)
theorem V_ifnull {r : Option Nat} {off : Int} {tgt : Nat} (hd : decode k.2.1 pc = .ok (.ifnull off, 3)) (ht : (pc : Int) + off = (tgt : Int)) (hq : pc + 3 = q) (kt : r = none → V l g k T' mc ms Q T I P u w tgt L st) (kf : ∀ a, r = some a → V l g k T' mc ms Q T I P u w q L st) : V l g k T' mc ms Q T I P u w pc L (fw_rf g r :: st) := by
  subst hq
  intro p e s m args below meth c H locs ls hC hK hR hS hL
  cases r with
  | none => exact lv_ifnullN hC.1.1.1 hC.1.1.2.1 hd ht (kt rfl p e s m args below meth c H locs ls hC hK hR hS hL)
  | some a => exact lv_ifnull hC.1.1.1 hC.1.1.2.1 hd (kf a rfl p e s m args below meth c H locs ls hC hK hR hS hL)
theorem V_ifnonnull {r : Option Nat} {off : Int} {tgt : Nat} (hd : decode k.2.1 pc = .ok (.ifnonnull off, 3)) (ht : (pc : Int) + off = (tgt : Int)) (hq : pc + 3 = q) (kt : ∀ a, r = some a → V l g k T' mc ms Q T I P u w tgt L st) (kf : r = none → V l g k T' mc ms Q T I P u w q L st) : V l g k T' mc ms Q T I P u w pc L (fw_rf g r :: st) := by
  subst hq
  intro p e s m args below meth c H locs ls hC hK hR hS hL
  cases r with
  | none => exact lv_ifnonnullN hC.1.1.1 hC.1.1.2.1 hd (kf rfl p e s m args below meth c H locs ls hC hK hR hS hL)
  | some a => exact lv_ifnonnull hC.1.1.1 hC.1.1.2.1 hd ht (kt a rfl p e s m args below meth c H locs ls hC hK hR hS hL)
theorem V_ifnull_s {a : Nat} {off : Int} (hd : decode k.2.1 pc = .ok (.ifnull off, 3)) (hq : pc + 3 = q) (kk : V l g k T' mc ms Q T I P u w q L st) : V l g k T' mc ms Q T I P u w pc L (.ref a :: st) := by
  subst hq
  intro p e s m args below meth c H locs ls hC hK hR hS hL
  exact lv_ifnull hC.1.1.1 hC.1.1.2.1 hd (kk p e s m args below meth c H locs ls hC hK hR hS hL)
theorem V_ifnonnull_s {a : Nat} {off : Int} {tgt : Nat} (hd : decode k.2.1 pc = .ok (.ifnonnull off, 3)) (ht : (pc : Int) + off = (tgt : Int)) (kk : V l g k T' mc ms Q T I P u w tgt L st) : V l g k T' mc ms Q T I P u w pc L (.ref a :: st) := by
  intro p e s m args below meth c H locs ls hC hK hR hS hL
  exact lv_ifnonnull hC.1.1.1 hC.1.1.2.1 hd ht (kk p e s m args below meth c H locs ls hC hK hR hS hL)
theorem V_ifnull_n {off : Int} {tgt : Nat} (hd : decode k.2.1 pc = .ok (.ifnull off, 3)) (ht : (pc : Int) + off = (tgt : Int)) (kk : V l g k T' mc ms Q T I P u w tgt L st) : V l g k T' mc ms Q T I P u w pc L (.null :: st) := by
  intro p e s m args below meth c H locs ls hC hK hR hS hL
  exact lv_ifnullN hC.1.1.1 hC.1.1.2.1 hd ht (kk p e s m args below meth c H locs ls hC hK hR hS hL)
theorem V_ifnonnull_n {off : Int} (hd : decode k.2.1 pc = .ok (.ifnonnull off, 3)) (hq : pc + 3 = q) (kk : V l g k T' mc ms Q T I P u w q L st) : V l g k T' mc ms Q T I P u w pc L (.null :: st) := by
  subst hq
  intro p e s m args below meth c H locs ls hC hK hR hS hL
  exact lv_ifnonnullN hC.1.1.1 hC.1.1.2.1 hd (kk p e s m args below meth c H locs ls hC hK hR hS hL)
theorem V_lookup {dflt : Int} {ps : Array (Int × Int)} {len : Nat} {x : Int32} {off : Int} {tgt : Nat} (hd : decode k.2.1 pc = .ok (.lookupswitch dflt ps, len)) (hp : (ps.toList.zip (ps.toList.drop 1)).all (fun (a, next) => a.1 < next.1) = true) (ho : Op.lookupswitch.offset ps.toList dflt x.toInt = off) (ht : (pc : Int) + off = (tgt : Int)) (kk : V l g k T' mc ms Q T I P u w tgt L st) : V l g k T' mc ms Q T I P u w pc L (.int x :: st) := by
  intro p e s m args below meth c H locs ls hC hK hR hS hL
  exact lv_lookup hC.1.1.1 hC.1.1.2.1 hd hp ho ht (kk p e s m args below meth c H locs ls hC hK hR hS hL)
theorem V_tableOut {dflt lo hi : Int} {offs : Array Int} {len : Nat} {x : Int32} {tgt : Nat} (hd : decode k.2.1 pc = .ok (.tableswitch dflt lo hi offs, len)) (h : x.toInt < lo ∨ hi < x.toInt) (ht : (pc : Int) + dflt = (tgt : Int)) (kk : V l g k T' mc ms Q T I P u w tgt L st) : V l g k T' mc ms Q T I P u w pc L (.int x :: st) := by
  intro p e s m args below meth c H locs ls hC hK hR hS hL
  exact lv_tableOut hC.1.1.1 hC.1.1.2.1 hd h ht (kk p e s m args below meth c H locs ls hC hK hR hS hL)
theorem V_tableIn {dflt lo hi : Int} {offs : Array Int} {len : Nat} {x : Int32} {off : Int} {tgt : Nat} (hd : decode k.2.1 pc = .ok (.tableswitch dflt lo hi offs, len)) (h1 : ¬ x.toInt < lo) (h2 : ¬ hi < x.toInt) (ho : offs[(x.toInt - lo).toNat]? = some off) (ht : (pc : Int) + off = (tgt : Int)) (kk : V l g k T' mc ms Q T I P u w tgt L st) : V l g k T' mc ms Q T I P u w pc L (.int x :: st) := by
  intro p e s m args below meth c H locs ls hC hK hR hS hL
  exact lv_tableIn hC.1.1.1 hC.1.1.2.1 hd h1 h2 ho ht (kk p e s m args below meth c H locs ls hC hK hR hS hL)
/-! fields -/
def fw_at (T : fw_T) (a c n : Nat) : Prop := a < T.1 ∧ T.2 a = (c, n)
def fw_cl (ci : Nat) (C : String) (Tt : u_T) (N : Nat) (ty : Nat → FieldType) : Prop := vwCl[ci]? = some (C, Tt, N) ∧ ci < 9 ∧ (∀ w ∈ u_ws C Tt N, w ∈ fw_U) ∧ (∀ k, k < N → parseFieldDescriptor (Tt k).2.2.1 = some (ty k)) ∧ (∀ a, a < N → ∀ b, b < N → a ≠ b → (Tt a).2.1 ≠ (Tt b).2.1) ∧ ∀ (g : fw_G) (I : fw_I) (P : fw_P) (a : Nat), (fw_fs g I P a ci).length = N
theorem fw_at.get {T : fw_T} {a c : Nat} (h : fw_at T a c 0) (hc : c < 9) (g : fw_G) (I : fw_I) (P : fw_P) : (fw_ws g T I P)[a]? = some (g.1 + a, .inr (c, fw_fs g I P a c)) := by
  rw [fw_ws_get g T I P h.1, h.2, fw_ent_ob g I P a 0 hc]
theorem V_get {ci kf idx a N : Nat} {C : String} {Tt : u_T} {ty : Nat → FieldType} {v : Value} (hc : fw_cl ci C Tt N ty) (hk : kf < N) (hl : Cond.fieldLink k.1.cls idx (Tt kf).1 (Tt kf).2.1 (Tt kf).2.2.1 ∈ fw_U) (hT : fw_at T a ci 0) (hv : (fw_fs g I P a ci)[kf]? = some v) (hd : decode k.2.1 pc = .ok (.getfield idx, 3)) (hq : pc + 3 = q) (kk : V l g k T' mc ms Q T I P u w q L (v :: st)) : V l g k T' mc ms Q T I P u w pc L (.ref (g.1 + a) :: st) := by
  subst hq
  intro p e s m args below meth c H locs ls hC hK hR hS hL
  exact va_get (D := g.2.1) hC.1.1.1 hC.1.1.2.1 hC.1.1.2.2.2.2 hc.2.2.1 hC.1.1.2.2.2.1 hK.1 hR a (hT.get hc.2.1 g I P) hc.1 kf hk (hC.1.1.2.2.2.2 _ hl) (fun _ h9 => h9) hv hd (kk p e s m args below meth c H locs ls hC hK hR hS hL)
theorem V_puti {ci kf idx a N : Nat} {C : String} {Tt : u_T} {ty : Nat → FieldType} {fty : FieldType} {x : Int32} (hc : fw_cl ci C Tt N ty) (hk : kf < N) (hi : fw_int ci kf = true) (hl : Cond.fieldLink k.1.cls idx (Tt kf).1 (Tt kf).2.1 (Tt kf).2.2.1 ∈ fw_U) (hfin : (Tt kf).2.2.2 = false) (hty : ty kf = fty) (hn : narrow fty (.int x) = .int x) (hf : fits fty (.int x) = true) (hT : fw_at T a ci 0) (hd : decode k.2.1 pc = .ok (.putfield idx, 3)) (hq : pc + 3 = q) (kk : V l g k T' mc ms Q T (up2 I a kf x) P u w q L st) : V l g k T' mc ms Q T I P u w pc L (.int x :: .ref (g.1 + a) :: st) := by
  subst hq
  intro p e s m args below meth c H locs ls hC hK hR hS hL
  refine va_put (D := g.2.1) (ty := fty) hC.1.1.1 hC.1.1.2.1 hC.1.1.2.2.2.2 hc.2.2.1 ty hc.2.2.2.1 hc.2.2.2.2.1 hC.1.1.2.2.2.1 hK.1 hR (fw_D g T I P) hS a (hT.get hc.2.1 g I P) hc.1 kf hk (hC.1.1.2.2.2.2 _ hl) (fun _ h9 => h9) hfin (by rw [hc.2.2.2.1 kf hk, hty]) hn hf (by rw [hc.2.2.2.2.2]; exact hk) hd (fun H1 locs1 hP1 hD1 hS1 => ?_)
  have e9 : (fw_ws g T I P).set a (g.1 + a, .inr (ci, (fw_fs g I P a ci).set kf (.int x))) = fw_ws g T (up2 I a kf x) P :=
    fw_ws_set g T I (up2 I a kf x) P P hT.1 (by rw [hT.2, fw_ent_ob g _ P a 0 hc.2.1, fw_seti g I P a x ci kf hi]) (fun b hb => up2_ne I kf x hb) (fun _ _ => rfl)
  rw [e9] at hP1
  exact kk p e s m args below meth c H1 locs1 ls hC hK hP1 hS1 hL
theorem fw_ent_i (g : fw_G) (I : fw_I) (P : fw_P) (a n j : Nat) (x : Int32) : fw_ent g (up2 I a j x) P a (9, n) = .inl (g.2.2 9, n, .inl (upd (I a) j x)) := by
  show Sum.inl (g.2.2 9, n, Sum.inl (up2 I a j x a)) = _
  rw [up2_row]
  rfl
theorem fw_ent_z (g : fw_G) (I : fw_I) (P : fw_P) (a n j : Nat) (x : Int32) : fw_ent g (up2 I a j x) P a (10, n) = .inl (g.2.2 10, n, .inl (upd (I a) j x)) := by
  show Sum.inl (g.2.2 10, n, Sum.inl (up2 I a j x a)) = _
  rw [up2_row]
  rfl
/-- the arrays of references: the class of their elements -/
def fw_el (kd ce : Nat) (r : vw_C) : Prop := (kd = 11 ∧ ce = 3 ∧ r = (RX3, TX3, 10)) ∨ (kd = 12 ∧ ce = 2 ∧ r = (RX2, TX2, 7)) ∨ (kd = 13 ∧ ce = 0 ∧ r = (RX0, TX0, 4)) ∨ (kd = 14 ∧ ce = 6 ∧ r = (RX6, TX6, 4))
theorem fw_el.ty {kd ce : Nat} {r : vw_C} (h : fw_el kd ce r) (g : fw_G) : (fw_tys g)[kd - 9]? = some (g.2.2 kd, .object r.1) := by
  rcases h with ⟨rfl, rfl, rfl⟩ | ⟨rfl, rfl, rfl⟩ | ⟨rfl, rfl, rfl⟩ | ⟨rfl, rfl, rfl⟩ <;> rfl
theorem fw_el.cl {kd ce : Nat} {r : vw_C} (h : fw_el kd ce r) : vwCl[ce]? = some r := by
  rcases h with ⟨rfl, rfl, rfl⟩ | ⟨rfl, rfl, rfl⟩ | ⟨rfl, rfl, rfl⟩ | ⟨rfl, rfl, rfl⟩ <;> rfl
theorem fw_el.lt {kd ce : Nat} {r : vw_C} (h : fw_el kd ce r) : ce < 9 := by
  rcases h with ⟨rfl, rfl, rfl⟩ | ⟨rfl, rfl, rfl⟩ | ⟨rfl, rfl, rfl⟩ | ⟨rfl, rfl, rfl⟩ <;> decide
theorem fw_el.ent {kd ce : Nat} {r : vw_C} (h : fw_el kd ce r) (g : fw_G) (I : fw_I) (P : fw_P) (a n : Nat) : fw_ent g I P a (kd, n) = .inl (g.2.2 kd, n, .inr (.inr (.inr (.inr (fun j => (P a j).map fun b => g.1 + b))))) := by
  rcases h with ⟨rfl, rfl, rfl⟩ | ⟨rfl, rfl, rfl⟩ | ⟨rfl, rfl, rfl⟩ | ⟨rfl, rfl, rfl⟩ <;> rfl

/-! arrays -/
def fw_ix (i : Int32) (j n : Nat) : Prop := ¬ i < 0 ∧ i.toNatClampNeg = j ∧ j < n
theorem fw_ix.in {i : Int32} {j n : Nat} (h : fw_ix i j n) : vp_in i n := fun q => q.elim h.1 (fun z => by have := h.2.1; have := h.2.2; omega)
theorem fw_ix_nI {j n : Nat} (h : j < n) (hn : n < 2 ^ 31) : fw_ix (nI j) j n := ⟨nI_pos (by omega), nI_clamp (by omega), h⟩
theorem V_iald {a n j : Nat} {i : Int32} (hT : fw_at T a 9 n) (hi : fw_ix i j n) (hd : decode k.2.1 pc = .ok (.iaload, 1)) (hq : pc + 1 = q) (kk : V l g k T' mc ms Q T I P u w q L (.int (I a j) :: st)) : V l g k T' mc ms Q T I P u w pc L (.int i :: .ref (g.1 + a) :: st) := by
  subst hq
  intro p e s m args below meth c H locs ls hC hK hR hS hL
  have kk := kk p e s m args below meth c H locs ls hC hK hR hS hL
  rw [← hi.2.1] at kk
  exact va_iald (D := g.2.1) hC.1.1.1 hC.1.1.2.1 hK.1 hR a 0 (by rw [fw_ws_get g T I P hT.1, hT.2]; rfl) rfl hi.in hd kk
theorem V_zald {a n j : Nat} {i : Int32} (hT : fw_at T a 10 n) (hi : fw_ix i j n) (hd : decode k.2.1 pc = .ok (.baload, 1)) (hq : pc + 1 = q) (kk : V l g k T' mc ms Q T I P u w q L (.int (I a j) :: st)) : V l g k T' mc ms Q T I P u w pc L (.int i :: .ref (g.1 + a) :: st) := by
  subst hq
  intro p e s m args below meth c H locs ls hC hK hR hS hL
  have kk := kk p e s m args below meth c H locs ls hC hK hR hS hL
  rw [← hi.2.1] at kk
  exact va_zald (D := g.2.1) hC.1.1.1 hC.1.1.2.1 hK.1 hR a 1 (by rw [fw_ws_get g T I P hT.1, hT.2]; rfl) rfl hi.in hd kk
theorem fw_upd (I : fw_I) (a j : Nat) (x : Int32) : up2 I a j x a = upd (I a) j x := by
  rw [up2_row]
  rfl
theorem V_iast {a n j : Nat} {i x : Int32} (hT : fw_at T a 9 n) (hi : fw_ix i j n) (hd : decode k.2.1 pc = .ok (.iastore, 1)) (hq : pc + 1 = q) (kk : V l g k T' mc ms Q T (up2 I a j x) P u w q L st) : V l g k T' mc ms Q T I P u w pc L (.int x :: .int i :: .ref (g.1 + a) :: st) := by
  subst hq
  intro p e s m args below meth c H locs ls hC hK hR hS hL
  refine va_iast (D := g.2.1) hC.1.1.1 hC.1.1.2.1 hK.1 hR (fw_D g T I P) hS a 0 (by rw [fw_ws_get g T I P hT.1, hT.2]; rfl) rfl hi.in hd (fun H1 locs1 hP1 hD1 hS1 => ?_)
  rw [hi.2.1, fw_ws_set g T I (up2 I a j x) P P hT.1 (by rw [hT.2]; exact fw_ent_i g _ P a n j x) (fun b hb => up2_ne I j x hb) (fun _ _ => rfl)] at hP1
  exact kk p e s m args below meth c H1 locs1 ls hC hK hP1 hS1 hL
theorem V_zast {a n j : Nat} {i x : Int32} (hx : vp_nar .boolean x = x) (hT : fw_at T a 10 n) (hi : fw_ix i j n) (hd : decode k.2.1 pc = .ok (.bastore, 1)) (hq : pc + 1 = q) (kk : V l g k T' mc ms Q T (up2 I a j x) P u w q L st) : V l g k T' mc ms Q T I P u w pc L (.int x :: .int i :: .ref (g.1 + a) :: st) := by
  subst hq
  intro p e s m args below meth c H locs ls hC hK hR hS hL
  refine va_zast (D := g.2.1) hC.1.1.1 hC.1.1.2.1 hK.1 hR (fw_D g T I P) hS a 1 (by rw [fw_ws_get g T I P hT.1, hT.2]; rfl) rfl hi.in hd (fun H1 locs1 hP1 hD1 hS1 => ?_)
  rw [hi.2.1, hx, fw_ws_set g T I (up2 I a j x) P P hT.1 (by rw [hT.2]; exact fw_ent_z g _ P a n j x) (fun b hb => up2_ne I j x hb) (fun _ _ => rfl)] at hP1
  exact kk p e s m args below meth c H1 locs1 ls hC hK hP1 hS1 hL

theorem V_aald {kd ce a n j : Nat} {r : vw_C} {i : Int32} (he : fw_el kd ce r) (hT : fw_at T a kd n) (hi : fw_ix i j n) (hd : decode k.2.1 pc = .ok (.aaload, 1)) (hq : pc + 1 = q) (kk : V l g k T' mc ms Q T I P u w q L (fw_rf g (P a j) :: st)) : V l g k T' mc ms Q T I P u w pc L (.int i :: .ref (g.1 + a) :: st) := by
  subst hq
  intro p e s m args below meth c H locs ls hC hK hR hS hL
  have kk := kk p e s m args below meth c H locs ls hC hK hR hS hL
  rw [← hi.2.1, ← fw_rf_map] at kk
  exact va_aldq (D := g.2.1) hC.1.1.1 hC.1.1.2.1 hK.1 hR a (kd - 9) (by rw [fw_ws_get g T I P hT.1, hT.2, he.ent]) (he.ty g) hi.in hd kk
theorem V_aast {kd ce a n j b : Nat} {r : vw_C} {i : Int32} (he : fw_el kd ce r) (hT : fw_at T a kd n) (hb : fw_at T b ce 0) (hi : fw_ix i j n) (hd : decode k.2.1 pc = .ok (.aastore, 1)) (hq : pc + 1 = q) (kk : V l g k T' mc ms Q T I (up2 P a j (some b)) u w q L st) : V l g k T' mc ms Q T I P u w pc L (.ref (g.1 + b) :: .int i :: .ref (g.1 + a) :: st) := by
  subst hq
  intro p e s m args below meth c H locs ls hC hK hR hS hL
  refine va_astq (D := g.2.1) hC.1.1.1 hC.1.1.2.1 hK.1 hR (fw_D g T I P) hS a (kd - 9) b ce (by rw [fw_ws_get g T I P hT.1, hT.2, he.ent]) (he.ty g) (hb.get he.lt g I P) he.cl hi.in hd (fun H1 locs1 hP1 hD1 hS1 => ?_)
  rw [hi.2.1, fw_ws_set g T I I P (up2 P a j (some b)) hT.1 (by
    rw [hT.2, he.ent]
    congr 7
    funext x
    rw [up2_row]
    unfold va_up
    by_cases hx : x = j <;> simp [hx]) (fun _ _ => rfl) (fun b0 hb0 => up2_ne P j (some b) hb0)] at hP1
  exact kk p e s m args below meth c H1 locs1 ls hC hK hP1 hS1 hL
theorem V_alen {kd a n : Nat} (hkd : 9 ≤ kd ∧ kd < 15) (hT : fw_at T a kd n) (hd : decode k.2.1 pc = .ok (.arraylength, 1)) (hq : pc + 1 = q) (kk : V l g k T' mc ms Q T I P u w q L (.int (nI n) :: st)) : V l g k T' mc ms Q T I P u w pc L (.ref (g.1 + a) :: st) := by
  subst hq
  intro p e s m args below meth c H locs ls hC hK hR hS hL
  have kk := kk p e s m args below meth c H locs ls hC hK hR hS hL
  have key : ∀ (x : vp_A) (ty : FieldType), (fw_ws g T I P)[a]? = some (g.1 + a, .inl (g.2.2 kd, x)) → (fw_tys g)[kd - 9]? = some (g.2.2 kd, ty) → x.1 = n → W p l e (fw_rm k mc ms) s m args below meth c H locs u w (MQ below (fw_post g T' Q) args s mc ms (fw_A g)) (F0 m pc ls (.ref (g.1 + a) :: st)) := by
    intro x ty h1 h2 h3
    exact va_alen (D := g.2.1) hC.1.1.1 hC.1.1.2.1 hK.1 hR a (kd - 9) h1 h2 (by rw [h3]; rfl) hd kk
  have hget := fw_ws_get g T I P hT.1
  rw [hT.2] at hget
  rcases (show kd = 9 ∨ kd = 10 ∨ kd = 11 ∨ kd = 12 ∨ kd = 13 ∨ kd = 14 by omega) with rfl | rfl | rfl | rfl | rfl | rfl
  · exact key (n, .inl (I a)) .int hget rfl rfl
  · exact key (n, .inl (I a)) .boolean hget rfl rfl
  · exact key (n, .inr (.inr (.inr (.inr (fun j => (P a j).map fun b => g.1 + b))))) (.object RX3) hget rfl rfl
  · exact key (n, .inr (.inr (.inr (.inr (fun j => (P a j).map fun b => g.1 + b))))) (.object RX2) hget rfl rfl
  · exact key (n, .inr (.inr (.inr (.inr (fun j => (P a j).map fun b => g.1 + b))))) (.object RX0) hget rfl rfl
  · exact key (n, .inr (.inr (.inr (.inr (fun j => (P a j).map fun b => g.1 + b))))) (.object RX6) hget rfl rfl
/-! ends -/
theorem V_ireturn {ty : FieldType} {v : Int32} (hr : k.2.2.2.1 = some ty) (hn : narrow ty (.int v) = .int v) (hd : decode k.2.1 pc = .ok (.ireturn, 1)) (hT : T = T') (hu : u = mc) (hw : w = ms) (hQ : Q (some (.int v)) I P) : V l g k T' mc ms Q T I P u w pc L [.int v] := by
  subst hT hu hw
  intro p e s m args below meth c H locs ls hC hK hR hS hL
  exact W.zret (v := v) hC.1.1.1 hC.1.1.2.1 (hC.1.2.1.trans hr) hn (fun t ht hW => ⟨⟨_, I, P, rfl, hQ, by rw [ht]; exact hR⟩, hS.F ht⟩) hS.2.2 hd hC.1.2.2.1
theorem V_return (hr : k.2.2.2.1 = none) (hd : decode k.2.1 pc = .ok (.return_, 1)) (hT : T = T') (hu : u = mc) (hw : w = ms) (hQ : Q none I P) : V l g k T' mc ms Q T I P u w pc L [] := by
  subst hT hu hw
  intro p e s m args below meth c H locs ls hC hK hR hS hL
  exact W.vret hC.1.1.1 hC.1.1.2.1 (hC.1.2.1.trans hr) (fun t ht hW => ⟨⟨_, I, P, rfl, hQ, by rw [ht]; exact hR⟩, hS.F ht⟩) hS.2.2 hd hC.1.2.2.1
theorem V_areturn {C : String} {r : Option Nat} (hr : k.2.2.2.1 = some (.object C)) (hd : decode k.2.1 pc = .ok (.areturn, 1)) (hT : T = T') (hu : u = mc) (hw : w = ms) (hQ : Q (some (fw_rf g r)) I P) : V l g k T' mc ms Q T I P u w pc L [fw_rf g r] := by
  subst hT hu hw
  intro p e s m args below meth c H locs ls hC hK hR hS hL
  exact W.aret (v := fw_rf g r) hC.1.1.1 hC.1.1.2.1 (hC.1.2.1.trans hr) (Or.inl ⟨C, rfl⟩) (by cases r with | none => exact Or.inl rfl | some a => exact Or.inr ⟨_, rfl⟩) (fun t ht hW => ⟨⟨_, I, P, rfl, hQ, by rw [ht]; exact hR⟩, hS.F ht⟩) hS.2.2 hd hC.1.2.2.1
/-! allocation -/
def fw_push (T : fw_T) (kd : Nat × Nat) : fw_T := (T.1 + 1, fun a => if a = T.1 then kd else T.2 a)
def fw_z {α : Type} (I : Nat → Nat → α) (n : Nat) (x : α) : Nat → Nat → α := fun b => if b = n then (fun _ => x) else I b
theorem fw_ws_push (g : fw_G) (T : fw_T) (I : fw_I) (P : fw_P) (kd : Nat × Nat) : fw_ws g (fw_push T kd) (fw_z I T.1 0) (fw_z P T.1 none) = fw_ws g T I P ++ [(g.1 + T.1, fw_ent g (fun _ _ => 0) (fun _ _ => none) T.1 kd)] := by
  unfold fw_ws fw_push
  simp only [List.range_succ, List.map_append, List.map_cons, List.map_nil, if_true]
  congr 1
  · apply List.map_congr_left
    intro a ha
    have : a ≠ T.1 := by have := List.mem_range.mp ha; omega
    simp only [this, if_false]
    congr 1
    unfold fw_ent fw_fs fw_z
    simp only [this, if_false]
  · congr 2
    unfold fw_ent fw_fs fw_z
    simp only [if_true]
theorem fw_sized {p : Program} {e : Env} {s : State} {m : MethodId} {args : Array Value} {below : List Frame} {meth : Method} {c : Code} {R : Room} {H : Heap} {locs : List Loc} {Qw : State → Prop} {f : JFrame} (hz : s.heap.size + u = g.1 + T.1) (hg : g.1 ≤ s.heap.size) (hS : va_S (fw_A g) s.heap H locs) (hR : fw_R g T I P H) (h : H.size = g.1 + T.1 → W p l e R s m args below meth c H locs u w Qw f) : W p l e R s m args below meth c H locs u w Qw f := by
  intro T0 hT0 X
  refine h ?_ T0 hT0 X
  have h1 := X.heapSize
  rw [hT0] at h1
  have h2 := hS.1
  rcases Nat.eq_zero_or_pos T.1 with h0 | h0
  · omega
  · have h3 := (hR (T.1 - 1) _ (fw_ws_get g T I P (a := T.1 - 1) (by omega))).lt
    show H.size = _
    have h4 : (g.1 + (T.1 - 1), fw_ent g I P (T.1 - 1) (T.2 (T.1 - 1))).1 = g.1 + (T.1 - 1) := rfl
    omega
theorem fw_newcell {p : Program} {e : Env} {s : State} {m : MethodId} {args : Array Value} {below : List Frame} {meth : Method} {c : Code} {H1 : Heap} {locs : List Loc} {ls : Array Slot} {a0 : Nat} {e0 : va_E} {kd : Nat × Nat} {n1 : Nat}
    (hC : fw_C g k p s m args meth c ∧ s.heap.size + u = g.1 + T.1) (hK : fw_K g s) (hL : fw_L ls k.2.2.1 L) (ha : a0 = g.1 + T.1) (he : fw_ent g (fun _ _ => 0) (fun _ _ => none) T.1 kd = e0)
    (hP1 : va_P g.2.1 vwCl (fw_ws g T I P ++ [(a0, e0)]) H1) (hS1 : va_S (fw_A g) s.heap H1 locs)
    (kk : V l g k T' mc ms Q (fw_push T kd) (fw_z I T.1 0) (fw_z P T.1 none) (u + 1) n1 q L (.ref (g.1 + T.1) :: st)) :
    W p l e (fw_rm k mc ms) s m args below meth c H1 locs (u + 1) n1 (MQ below (fw_post g T' Q) args s mc ms (fw_A g)) (F0 m q ls (.ref a0 :: st)) := by
  subst ha
  subst he
  rw [← fw_ws_push] at hP1
  exact kk p e s m args below meth c H1 locs ls ⟨hC.1, by show _ = g.1 + (T.1 + 1); have := hC.2; omega⟩ hK hP1 hS1 hL
theorem V_new {ci idx N : Nat} {C : String} {Tt : u_T} {ty : Nat → FieldType} (hc : fw_cl ci C Tt N ty) (hdf : ∀ j, j < N → defaultValue (ty j) = vp_V (fw_fs g (fun _ _ => 0) (fun _ _ => none) T.1 ci) j) (hl : Cond.classLink k.1.cls idx C ∈ fw_U) (hin : Cond.instantiable C N ∈ fw_U) (hini : Cond.initialized C ∈ fw_U) (hu : u + 1 ≤ mc) (hw : w + N ≤ ms) (hd : decode k.2.1 pc = .ok (.new idx, 3)) (hq : pc + 3 = q)
    (kk : V l g k T' mc ms Q (fw_push T (ci, 0)) (fw_z I T.1 0) (fw_z P T.1 none) (u + 1) (w + N) q L (.ref (g.1 + T.1) :: st)) : V l g k T' mc ms Q T I P u w pc L st := by
  subst hq
  intro p e s m args below meth c H locs ls hC hK hR hS hL
  refine fw_sized hC.2 hC.1.2.2.2.2 hS hR (fun hz => ?_)
  have hcl := hC.1.1.2.2.2.2
  refine W.newcK hC.1.1.1 hC.1.1.2.1 hC.1.1.2.2.2.1 (hcl _ hl) (hcl _ hin) (hcl _ hini) rfl hd hu hw (hK.1.1 ci _ hc.1).2.1 rfl (fun H1 kC hkC e1 z1 o1 => ?_)
  have hk : ∀ (k0 : Nat) (x : Nat × va_E), (fw_ws g T I P)[k0]? = some x → H1[x.1]? = H[x.1]? := fun k0 x hx => o1 x.1 ((hR k0 x hx).lt)
  refine fw_newcell hC hK hL hz (fw_ent_ob g _ _ T.1 0 hc.2.1) ((va_P.kept hR hk).app (fun k0 x hx => ?_)) ⟨Nat.le_trans hS.1 (by omega), fun x h1 h2 => (o1 x (Nat.lt_of_lt_of_le h1 hS.1)).trans (hS.2.1 x h1 h2), hS.2.2⟩ kk
  have hz0 : k0 < 1 := (List.getElem?_eq_some_iff.mp hx).1
  rw [show k0 = 0 by omega] at hx
  cases hx
  exact ⟨_, hc.1, (u_born ty hcl hc.2.2.1 (hK.1.1 ci _ hc.1) hkC e1 hc.2.2.2.1).to hdf⟩
theorem V_newa {kd N : Nat} {at0 : ArrayType} {n : Int32} {ty : FieldType} (hkd : (kd = 9 ∧ ty = .int) ∨ (kd = 10 ∧ ty = .boolean)) (hty : newarray.typeOf at0 = ty) (hac : Cond.arrayClass ty ∈ fw_U) (hn : ¬ n < 0) (hN : n.toNatClampNeg = N) (hb : N * componentBytes ty ≤ 536870912) (hu : u + 1 ≤ mc) (hw : w + N ≤ ms) (hd : decode k.2.1 pc = .ok (.newarray at0, 2)) (hq : pc + 2 = q)
    (kk : V l g k T' mc ms Q (fw_push T (kd, N)) (fw_z I T.1 0) (fw_z P T.1 none) (u + 1) (w + N) q L (.ref (g.1 + T.1) :: st)) : V l g k T' mc ms Q T I P u w pc L (.int n :: st) := by
  subst hty
  subst hq
  intro p e s m args below meth c H locs ls hC hK hR hS hL
  refine fw_sized hC.2 hC.1.2.2.2.2 hS hR (fun hz => ?_)
  refine va_newaK hC.1.1.1 hC.1.1.2.1 (hC.1.1.2.2.2.2 _ hac) rfl hd rfl hn hN hb hu hw rfl (fun H1 cA e1 z1 o1 hAr hNm => ?_)
  have hk : ∀ (k0 : Nat) (x : Nat × va_E), (fw_ws g T I P)[k0]? = some x → H1[x.1]? = H[x.1]? := fun k0 x hx => o1 x.1 ((hR k0 x hx).lt)
  have hS1 : va_S (fw_A g) s.heap H1 locs := ⟨Nat.le_trans hS.1 (by omega), fun x h1 h2 => (o1 x (Nat.lt_of_lt_of_le h1 hS.1)).trans (hS.2.1 x h1 h2), hS.2.2⟩
  rcases hkd with ⟨rfl, h9⟩ | ⟨rfl, h9⟩
  · rw [h9] at e1 hNm
    have hcA : cA = g.2.2 9 := by
      have h2 := (hK.1.2 0 _ rfl).2
      exact Option.some.inj (hNm.symm.trans h2)
    subst hcA
    refine fw_newcell hC hK hL hz rfl ((va_P.kept hR hk).app (fun k0 x hx => ?_)) hS1 kk
    have hz0 : k0 < 1 := (List.getElem?_eq_some_iff.mp hx).1
    rw [show k0 = 0 by omega] at hx
    cases hx
    exact e1
  · rw [h9] at e1 hNm
    have hcA : cA = g.2.2 10 := by
      have h2 := (hK.1.2 1 _ rfl).2
      exact Option.some.inj (hNm.symm.trans h2)
    subst hcA
    refine fw_newcell hC hK hL hz rfl ((va_P.kept hR hk).app (fun k0 x hx => ?_)) hS1 kk
    have hz0 : k0 < 1 := (List.getElem?_eq_some_iff.mp hx).1
    rw [show k0 = 0 by omega] at hx
    cases hx
    exact e1
theorem V_anew {kd ce N idx : Nat} {r : vw_C} {n : Int32} (he : fw_el kd ce r) (hl : Cond.classLink k.1.cls idx r.1 ∈ fw_U) (hov : r.1 ∈ fw_aos) (hn : ¬ n < 0) (hN : n.toNatClampNeg = N) (hb : N * 4 ≤ 536870912) (hu : u + 1 ≤ mc) (hw : w + N ≤ ms) (hd : decode k.2.1 pc = .ok (.anewarray idx, 3)) (hq : pc + 3 = q)
    (kk : V l g k T' mc ms Q (fw_push T (kd, N)) (fw_z I T.1 0) (fw_z P T.1 none) (u + 1) (w + N) q L (.ref (g.1 + T.1) :: st)) : V l g k T' mc ms Q T I P u w pc L (.int n :: st) := by
  subst hN
  subst hq
  intro p e s m args below meth c H locs ls hC hK hR hS hL
  refine fw_sized hC.2 hC.1.2.2.2.2 hS hR (fun hz => ?_)
  refine W.anew hC.1.1.1 hC.1.1.2.1 hC.1.1.2.2.2.1 (hC.1.1.2.2.2.2 _ hl) (va_AO.use (hK.2.2 _ hov)) rfl hd rfl hn hb hu hw (fun cA kA comp f1 f2 f3 f4 => ?_)
  generalize hH1 : H.push ({ cls := cA, slots := Array.replicate n.toNatClampNeg .null, vm := .none } : Cell) = H1
  have z1 : H1.size = H.size + 1 := by rw [← hH1, Array.size_push]
  have e1 : H1[H.size]? = some (arrV cA n.toNatClampNeg (fun _ => .null)) := by rw [← hH1, Array.getElem?_push_size, ← arrV_new]
  have o1 : ∀ x : Nat, x < H.size → H1[x]? = H[x]? := fun x hx => by rw [← hH1, Array.getElem?_push, if_neg (Nat.ne_of_lt hx)]
  have hk : ∀ (k0 : Nat) (x : Nat × va_E), (fw_ws g T I P)[k0]? = some x → H1[x.1]? = H[x.1]? := fun k0 x hx => o1 x.1 ((hR k0 x hx).lt)
  have hS1 : va_S (fw_A g) s.heap H1 locs := ⟨Nat.le_trans hS.1 (by omega), fun x h1 h2 => (o1 x (Nat.lt_of_lt_of_le h1 hS.1)).trans (hS.2.1 x h1 h2), hS.2.2⟩
  have hcA : cA = g.2.2 kd := by
    obtain ⟨kA2, comp2, h1, h2, h3, h4⟩ := (hK.1.2 (kd - 9) _ (he.ty g)).2
    have h5 : s.vm.findClass ("[" ++ (FieldType.object r.1).toString) = some cA := by first | exact f1 | exact f4
    exact Option.some.inj (h5.symm.trans h4)
  subst hcA
  refine fw_newcell hC hK hL hz (he.ent g _ _ T.1 n.toNatClampNeg) ((va_P.kept hR hk).app (fun k0 x hx => ?_)) hS1 kk
  have hz0 : k0 < 1 := (List.getElem?_eq_some_iff.mp hx).1
  rw [show k0 = 0 by omega] at hx
  cases hx
  show H1[H.size]? = some (vp_cell _ _)
  rw [e1]
  rfl
theorem V_putrF {ci kf idx a N : Nat} {C : String} {Tt : u_T} {ty : Nat → FieldType} {b : Nat} (hc : fw_cl ci C Tt N ty) (hk : kf < N) (hi : fw_refs ci kf = true) (hl : Cond.fieldLink k.1.cls idx (Tt kf).1 (Tt kf).2.1 (Tt kf).2.2.1 ∈ fw_U) (hfin : (Tt kf).2.2.2 = true) (hinit : k.1.name = "<init>") (hown : (Tt kf).1 = k.1.cls) (hn : narrow (ty kf) (.ref (g.1 + b)) = .ref (g.1 + b)) (hf : fits (ty kf) (.ref (g.1 + b)) = true) (hT : fw_at T a ci 0) (hd : decode k.2.1 pc = .ok (.putfield idx, 3)) (hq : pc + 3 = q) (kk : V l g k T' mc ms Q T I (up2 P a kf (some b)) u w q L st) : V l g k T' mc ms Q T I P u w pc L (.ref (g.1 + b) :: .ref (g.1 + a) :: st) := by
  subst hq
  intro p e s m args below meth c H locs ls hC hK hR hS hL
  refine va_putF (D := g.2.1) (ty := ty kf) hC.1.1.1 hC.1.1.2.1 hC.1.1.2.2.2.2 hc.2.2.1 ty hc.2.2.2.1 hc.2.2.2.2.1 hC.1.1.2.2.2.1 hK.1 hR (fw_D g T I P) hS a (hT.get hc.2.1 g I P) hc.1 kf hk (hC.1.1.2.2.2.2 _ hl) (fun _ h9 => h9) hfin (hC.1.2.2.2.1.trans hinit) hown (hc.2.2.2.1 kf hk) hn hf (by rw [hc.2.2.2.2.2]; exact hk) hd (fun H1 locs1 hP1 hD1 hS1 => ?_)
  have e9 : (fw_ws g T I P).set a (g.1 + a, .inr (ci, (fw_fs g I P a ci).set kf (.ref (g.1 + b)))) = fw_ws g T I (up2 P a kf (some b)) :=
    fw_ws_set g T I I P (up2 P a kf (some b)) hT.1 (by rw [hT.2, fw_ent_ob g _ _ a 0 hc.2.1, ← fw_setr g I P a (some b) ci kf hi]; rfl) (fun _ _ => rfl) (fun b0 hb => up2_ne P kf (some b) hb)
  rw [e9] at hP1
  exact kk p e s m args below meth c H1 locs1 ls hC hK hP1 hS1 hL
theorem V_objInit {idx a : Nat} (hl : Cond.methodLink k.1.cls idx Lib.objectInit ∈ fw_U) (hin : Cond.instanceMethod Lib.objectInit ∈ fw_U) (hcode : Cond.code Lib.objectInit ⟨#[0xb1]⟩ 1 none ∈ fw_U) (hd : decode k.2.1 pc = .ok (.invokespecial idx, 3)) (hq : pc + 3 = q) (hfr : 1 ≤ k.2.2.2.2.1) (hlo : (st.map fun v => v.category).sum + 12 ≤ k.2.2.2.2.2) (kk : V l g k T' mc ms Q T I P u w q L st) : V l g k T' mc ms Q T I P u w pc L (.ref a :: st) := by
  subst hq
  intro p e s m args below meth c H locs ls hC hK hR hS hL
  refine W.objInit hC.1.1.1 hC.1.1.2.1 hC.1.1.2.2.2.1 (hC.1.1.2.2.2.2 _ hl) (hC.1.1.2.2.2.2 _ hin) (hC.1.1.2.2.2.2 _ hcode) rfl (by show ls.size = c.maxLocals; rw [hC.1.1.2.2.1]; exact hL.1) rfl hd hfr (by show 2 * (F0 m pc ls (.ref a :: st)).monitorRoom + _ + 12 ≤ _; rw [show (F0 m pc ls (.ref a :: st)).monitorRoom = 0 from rfl]; show 2 * 0 + _ + 12 ≤ k.2.2.2.2.2; omega) ?_
  exact kk p e s m args below meth c H locs ls hC hK hR hS hL
/-! calls -/
def fw_plain (y : MethodName) (n : Nat) : Prop := y.cls ≠ "java/lang/invoke/MethodHandle" ∧ y.cls ≠ "java/lang/invoke/VarHandle" ∧ (parseMethodDescriptor y.desc).map (fun d => d.parameters.length) = some n
def fw_kc (k0 : fw_M) (n : Nat) : Prop := Cond.code k0.1 k0.2.1 k0.2.2.1 k0.2.2.2.1 ∈ fw_U ∧ Cond.initialized k0.1.cls ∈ fw_U ∧ fw_plain k0.1 n
def fw_kv (k0 : fw_M) (ci n : Nat) : Prop := fw_kc k0 n ∧ Cond.instanceMethod k0.1 ∈ fw_U ∧ Cond.selects k0.1.cls k0.1 k0.1 ∈ fw_U ∧ ci < 9 ∧ ∃ q, vwCl[ci]? = some q ∧ q.1 = k0.1.cls
def fw_ks (k0 : fw_M) (n : Nat) : Prop := fw_kc k0 n ∧ Cond.static k0.1 ∈ fw_U
def fw_ki (k0 : fw_M) (n : Nat) : Prop := fw_kc k0 n ∧ Cond.instanceMethod k0.1 ∈ fw_U ∧ k0.1.name = "<init>"
/-- the callee's room fits the caller's -/
def fw_fit (k k0 : fw_M) : Prop := k0.2.2.2.2.1 + 1 ≤ k.2.2.2.2.1 ∧ 8 + (k0.2.2.1 + 11) + k0.2.2.2.2.2 ≤ k.2.2.2.2.2
theorem fw_go {p : Program} {e : Env} {s : State} {m : MethodId} {args : Array Value} {below : List Frame} {meth : Method} {c : Code} {R : Room} {H : Heap} {locs : List Loc} {Qw : State → Prop} {ls : Array Slot} {st0 rest : List Value} {a : Array Value} {mc0 ms0 : Nat} {T0 : fw_T} {Q0 : Option Value → fw_I → fw_P → Prop}
    (hr : va_Run p l e R s m args below meth c H locs u w mc0 ms0 (F0 m pc ls st0) rest (fw_post g T0 Q0 a) (fw_A g)) (hS : va_S (fw_A g) s.heap H locs)
    (kk : ∀ (v : Option Value) (I1 : fw_I) (P1 : fw_P) (H1 : Heap) (locs1 : List Loc), Q0 v I1 P1 → fw_R g T0 I1 P1 H1 → va_S (fw_A g) s.heap H1 locs1 → W p l e R s m args below meth c H1 locs1 (u + mc0) (w + ms0) Qw (F0 m (pc + 3) ls (v.toList ++ rest))) : W p l e R s m args below meth c H locs u w Qw (F0 m pc ls st0) := by
  intro T1 hT X
  obtain ⟨v, st₀, t, T2, L1, h0, X', hL1, e1, e2, ⟨⟨v2, I1, P1, hv, hQ0, hR1⟩, hz, hk⟩, st1⟩ := hr T1 hT X
  cases hv
  rw [h0] at hz hk
  obtain ⟨t2, a1, b1⟩ := kk v I1 P1 T2.heap (locs ++ L1) hQ0 (by rw [e1]; exact hR1)
    ⟨Nat.le_trans hS.1 (by rw [e1]; exact hz), fun q0 h1 h2 => by rw [e1, hk q0 (Nat.lt_of_lt_of_le h1 hS.1) h2]; exact hS.2.1 q0 h1 h2, fun q0 hq0 => by
      rcases List.mem_append.mp hq0 with h | h
      · exact hS.2.2 q0 h
      · exact hL1 q0 h⟩ T2 rfl X'
  exact ⟨t2, st1 t2 a1, b1⟩
theorem fw_callB {k0 : fw_M} {idx n mc0 ms0 : Nat} {p : Program} {s : State} {m : MethodId} {args : Array Value} {meth : Method} {c : Code} (hC : fw_C g k p s m args meth c) (hk : fw_kc k0 n) (hm : Cond.methodLink k.1.cls idx k0.1 ∈ fw_U) (hf : fw_fit k k0) : CallB (fw_rm k mc ms) s args k.1.cls idx k0.1 k0.2.1 k0.2.2.1 k0.2.2.2.1 (fw_wsk k0) (fw_rm k0 mc0 ms0) mc0 ms0 n :=
  callB_of n hC.1.2.2.2.2 (fw_wsk_good hk.1) rfl rfl rfl (hC.1.2.2.2.2 _ hk.2.1) (hC.1.2.2.2.2 _ hm) ⟨hk.2.2.1, hk.2.2.2.1, hk.2.2.2.2⟩ hf
theorem V_call {k0 : fw_M} {ci n idx a mc0 ms0 : Nat} {As S0 : List Value} {T0 : fw_T} {Q0 : Option Value → fw_I → fw_P → Prop} (hsp : Sp l g k0 T (.ref (g.1 + a) :: As) I P T0 mc0 ms0 Q0) (hk : fw_kv k0 ci n) (hm : Cond.methodLink k.1.cls idx k0.1 ∈ fw_U) (hf : fw_fit k k0) (hT : fw_at T a ci 0) (hn : As.length = n) (hst : S0 = As.reverse ++ .ref (g.1 + a) :: st) (hcs : (st.map fun v => v.category).sum ≤ 8) (hu : u + mc0 ≤ mc) (hw : w + ms0 ≤ ms) (h0 : T0.1 = T.1 + mc0) (hd : decode k.2.1 pc = .ok (.invokevirtual idx, 3)) (hq : pc + 3 = q)
    (kk : ∀ (v : Option Value) (I1 : fw_I) (P1 : fw_P), Q0 v I1 P1 → V l g k T' mc ms Q T0 I1 P1 (u + mc0) (w + ms0) q L (v.toList ++ st)) : V l g k T' mc ms Q T I P u w pc L S0 := by
  subst hq
  intro p e s m args below meth c H locs ls hC hK hR hS hL
  refine fw_sized hC.2 hC.1.2.2.2.2 hS hR (fun hz => ?_)
  obtain ⟨r, hr1, hr2⟩ := hk.2.2.2.2
  have hrec := va_recv (q0 := a) hK.1 hR hr1 (hT.get hk.2.2.2.1 g I P)
  rw [hr2] at hrec
  refine fw_go (va_runV (C := k0.1.cls) (b := g.1 + a) (As := As) (rest := st) hC.1.1 hsp ⟨fw_callB hC.1 hk.1 hm hf, hC.1.1.2.2.2.2 _ hk.2.1, hC.1.1.2.2.2.2 _ hk.2.2.1⟩ ⟨fw_blind _ _ _ _ _, hrec, fun U hU hW => ⟨rfl, ⟨by rw [hU]; exact hz, by rw [hU]; exact hR⟩, hK.warm hW⟩⟩ rfl hn hL.1 hst (by show 2 * (F0 m pc ls S0).monitorRoom + _ ≤ 8; rw [show (F0 m pc ls S0).monitorRoom = 0 from rfl]; simpa using hcs) hd ⟨hu, hw⟩) hS (fun v I1 P1 H1 locs1 hQ0 hR1 hS1 => ?_)
  exact kk v I1 P1 hQ0 p e s m args below meth c H1 locs1 ls ⟨hC.1, by rw [h0]; have := hC.2; omega⟩ hK hR1 hS1 hL
theorem V_callS {k0 : fw_M} {n idx mc0 ms0 : Nat} {As S0 : List Value} {T0 : fw_T} {Q0 : Option Value → fw_I → fw_P → Prop} (hsp : Sp l g k0 T As I P T0 mc0 ms0 Q0) (hk : fw_ks k0 n) (hm : Cond.methodLink k.1.cls idx k0.1 ∈ fw_U) (hf : fw_fit k k0) (hn : As.length = n) (hst : S0 = As.reverse ++ st) (hcs : (st.map fun v => v.category).sum ≤ 8) (hu : u + mc0 ≤ mc) (hw : w + ms0 ≤ ms) (h0 : T0.1 = T.1 + mc0) (hd : decode k.2.1 pc = .ok (.invokestatic idx, 3)) (hq : pc + 3 = q)
    (kk : ∀ (v : Option Value) (I1 : fw_I) (P1 : fw_P), Q0 v I1 P1 → V l g k T' mc ms Q T0 I1 P1 (u + mc0) (w + ms0) q L (v.toList ++ st)) : V l g k T' mc ms Q T I P u w pc L S0 := by
  subst hq
  intro p e s m args below meth c H locs ls hC hK hR hS hL
  refine fw_sized hC.2 hC.1.2.2.2.2 hS hR (fun hz => ?_)
  refine fw_go (va_runS (As := As) (rest := st) hC.1.1 hsp ⟨fw_callB hC.1 hk.1 hm hf, hC.1.1.2.2.2.2 _ hk.2⟩ ⟨fw_blind _ _ _ _ _, fun U hU hW => ⟨rfl, ⟨by rw [hU]; exact hz, by rw [hU]; exact hR⟩, hK.warm hW⟩⟩ rfl hn hL.1 hst (by show 2 * (F0 m pc ls S0).monitorRoom + _ ≤ 8; rw [show (F0 m pc ls S0).monitorRoom = 0 from rfl]; simpa using hcs) hd ⟨hu, hw⟩) hS (fun v I1 P1 H1 locs1 hQ0 hR1 hS1 => ?_)
  exact kk v I1 P1 hQ0 p e s m args below meth c H1 locs1 ls ⟨hC.1, by rw [h0]; have := hC.2; omega⟩ hK hR1 hS1 hL
theorem V_callSN {k0 : fw_M} {n idx mc0 ms0 : Nat} {host : String} {As S0 : List Value} {T0 : fw_T} {Q0 : Option Value → fw_I → fw_P → Prop} (hsp : Sp l g k0 T As I P T0 mc0 ms0 Q0) (hk : fw_ks k0 n) (hm : (k.1.cls, idx, k0.1, host) ∈ fw_nests) (hf : fw_fit k k0) (hn : As.length = n) (hst : S0 = As.reverse ++ st) (hcs : (st.map fun v => v.category).sum ≤ 8) (hu : u + mc0 ≤ mc) (hw : w + ms0 ≤ ms) (h0 : T0.1 = T.1 + mc0) (hd : decode k.2.1 pc = .ok (.invokestatic idx, 3)) (hq : pc + 3 = q)
    (kk : ∀ (v : Option Value) (I1 : fw_I) (P1 : fw_P), Q0 v I1 P1 → V l g k T' mc ms Q T0 I1 P1 (u + mc0) (w + ms0) q L (v.toList ++ st)) : V l g k T' mc ms Q T I P u w pc L S0 := by
  subst hq
  intro p e s m args below meth c H locs ls hC hK hR hS hL
  refine fw_sized hC.2 hC.1.2.2.2.2 hS hR (fun hz => ?_)
  refine fw_go (va_runSN (As := As) (rest := st) hC.1.1 hsp ⟨va_cnB n hC.1.1.2.2.2.2 (fw_wsk_good hk.1.1) rfl rfl rfl (hK.2.1 _ hm) (hC.1.1.2.2.2.2 _ hk.1.2.1) ⟨hk.1.2.2.1, hk.1.2.2.2.1, hk.1.2.2.2.2⟩ hf, hC.1.1.2.2.2.2 _ hk.2, trivial⟩ ⟨fw_blind _ _ _ _ _, fun U hU hW => ⟨rfl, ⟨by rw [hU]; exact hz, by rw [hU]; exact hR⟩, hK.warm hW⟩⟩ rfl hn hL.1 hst (by show 2 * (F0 m pc ls S0).monitorRoom + _ ≤ 8; rw [show (F0 m pc ls S0).monitorRoom = 0 from rfl]; simpa using hcs) hd ⟨hu, hw⟩) hS (fun v I1 P1 H1 locs1 hQ0 hR1 hS1 => ?_)
  exact kk v I1 P1 hQ0 p e s m args below meth c H1 locs1 ls ⟨hC.1, by rw [h0]; have := hC.2; omega⟩ hK hR1 hS1 hL
theorem V_callI {k0 : fw_M} {n idx b mc0 ms0 : Nat} {As S0 : List Value} {T0 : fw_T} {Q0 : Option Value → fw_I → fw_P → Prop} (hsp : Sp l g k0 T (.ref b :: As) I P T0 mc0 ms0 Q0) (hk : fw_ki k0 n) (hret : k0.2.2.2.1 = none) (hm : Cond.methodLink k.1.cls idx k0.1 ∈ fw_U) (hf : fw_fit k k0) (hn : As.length = n) (hst : S0 = As.reverse ++ .ref b :: st) (hcs : (st.map fun v => v.category).sum ≤ 8) (hu : u + mc0 ≤ mc) (hw : w + ms0 ≤ ms) (h0 : T0.1 = T.1 + mc0) (hd : decode k.2.1 pc = .ok (.invokespecial idx, 3)) (hq : pc + 3 = q)
    (kk : ∀ (v : Option Value) (I1 : fw_I) (P1 : fw_P), Q0 v I1 P1 → V l g k T' mc ms Q T0 I1 P1 (u + mc0) (w + ms0) q L (v.toList ++ st)) : V l g k T' mc ms Q T I P u w pc L S0 := by
  subst hq
  intro p e s m args below meth c H locs ls hC hK hR hS hL
  refine fw_sized hC.2 hC.1.2.2.2.2 hS hR (fun hz => ?_)
  have hcb := fw_callB (mc := mc) (ms := ms) (mc0 := mc0) (ms0 := ms0) hC.1 hk.1 hm hf
  rw [hret] at hcb
  refine fw_go (va_runI (b := b) (As := As) (rest := st) hC.1.1 hsp ⟨hcb, hk.2.2, hC.1.1.2.2.2.2 _ hk.2.1⟩ ⟨fw_blind _ _ _ _ _, fun U hU hW => ⟨rfl, ⟨by rw [hU]; exact hz, by rw [hU]; exact hR⟩, hK.warm hW⟩⟩ rfl hn hL.1 hst (by show 2 * (F0 m pc ls S0).monitorRoom + _ ≤ 8; rw [show (F0 m pc ls S0).monitorRoom = 0 from rfl]; simpa using hcs) hd ⟨hu, hw⟩) hS (fun v I1 P1 H1 locs1 hQ0 hR1 hS1 => ?_)
  exact kk v I1 P1 hQ0 p e s m args below meth c H1 locs1 ls ⟨hC.1, by rw [h0]; have := hC.2; omega⟩ hK hR1 hS1 hL
theorem V_callIN {k0 : fw_M} {n idx b mc0 ms0 : Nat} {host : String} {As S0 : List Value} {T0 : fw_T} {Q0 : Option Value → fw_I → fw_P → Prop} (hsp : Sp l g k0 T (.ref b :: As) I P T0 mc0 ms0 Q0) (hk : fw_ki k0 n) (hret : k0.2.2.2.1 = none) (hm : (k.1.cls, idx, k0.1, host) ∈ fw_nests) (hf : fw_fit k k0) (hn : As.length = n) (hst : S0 = As.reverse ++ .ref b :: st) (hcs : (st.map fun v => v.category).sum ≤ 8) (hu : u + mc0 ≤ mc) (hw : w + ms0 ≤ ms) (h0 : T0.1 = T.1 + mc0) (hd : decode k.2.1 pc = .ok (.invokespecial idx, 3)) (hq : pc + 3 = q)
    (kk : ∀ (v : Option Value) (I1 : fw_I) (P1 : fw_P), Q0 v I1 P1 → V l g k T' mc ms Q T0 I1 P1 (u + mc0) (w + ms0) q L (v.toList ++ st)) : V l g k T' mc ms Q T I P u w pc L S0 := by
  subst hq
  intro p e s m args below meth c H locs ls hC hK hR hS hL
  refine fw_sized hC.2 hC.1.2.2.2.2 hS hR (fun hz => ?_)
  have hcb := va_cnB (R := fw_rm k mc ms) (rm := fw_rm k0 mc0 ms0) (mc := mc0) (ms := ms0) n hC.1.1.2.2.2.2 (fw_wsk_good hk.1.1) rfl rfl rfl (hK.2.1 _ hm) (hC.1.1.2.2.2.2 _ hk.1.2.1) ⟨hk.1.2.2.1, hk.1.2.2.2.1, hk.1.2.2.2.2⟩ hf
  rw [hret] at hcb
  refine fw_go (va_runIN (b := b) (As := As) (rest := st) hC.1.1 hsp ⟨hcb, hk.2.2, hC.1.1.2.2.2.2 _ hk.2.1⟩ ⟨fw_blind _ _ _ _ _, fun U hU hW => ⟨rfl, ⟨by rw [hU]; exact hz, by rw [hU]; exact hR⟩, hK.warm hW⟩⟩ rfl hn hL.1 hst (by show 2 * (F0 m pc ls S0).monitorRoom + _ ≤ 8; rw [show (F0 m pc ls S0).monitorRoom = 0 from rfl]; simpa using hcs) hd ⟨hu, hw⟩) hS (fun v I1 P1 H1 locs1 hQ0 hR1 hS1 => ?_)
  exact kk v I1 P1 hQ0 p e s m args below meth c H1 locs1 ls ⟨hC.1, by rw [h0]; have := hC.2; omega⟩ hK hR1 hS1 hL

end FWR
end
section
/-! words of the tables, by their places; the methods with their rooms; the classes -/
theorem fw_mem {w : Cond} (h : w ∈ tables_1) (hg : goodWord w = true) : w ∈ fw_U := List.mem_filter.mpr ⟨List.mem_append_right _ h, hg⟩
theorem fw_memS {q : MethodName × Nat} (h : q ∈ lw_privs) (hg : goodWord (Cond.selects q.1.cls q.1 q.1) = true) : Cond.selects q.1.cls q.1 q.1 ∈ fw_U := List.mem_filter.mpr ⟨List.mem_append_left _ (List.mem_map.mpr ⟨q, h, rfl⟩), hg⟩
theorem fw_memL {ws : List Cond} (ps : List Nat) (hp : ws = ps.filterMap (fun i => tables_1[i]?)) (hg : ws.all goodWord = true) : ∀ w ∈ ws, w ∈ fw_U := by
  intro w hw
  have h1 := List.all_eq_true.mp hg w hw
  rw [hp] at hw
  obtain ⟨i, -, hi⟩ := List.mem_filterMap.mp hw
  exact fw_mem (List.mem_of_getElem? hi) h1
theorem ini_L : Cond.initialized RL ∈ fw_U := fw_mem (List.mem_of_getElem? (i := 0) (by decide +kernel)) (by decide +kernel)
theorem ini_X7 : Cond.initialized RX7 ∈ fw_U := fw_mem (List.mem_of_getElem? (i := 1) (by decide +kernel)) (by decide +kernel)
theorem ini_X3 : Cond.initialized RX3 ∈ fw_U := fw_mem (List.mem_of_getElem? (i := 2) (by decide +kernel)) (by decide +kernel)
theorem ini_X2 : Cond.initialized RX2 ∈ fw_U := fw_mem (List.mem_of_getElem? (i := 3) (by decide +kernel)) (by decide +kernel)
theorem ini_X0 : Cond.initialized RX0 ∈ fw_U := fw_mem (List.mem_of_getElem? (i := 4) (by decide +kernel)) (by decide +kernel)
theorem ini_X6 : Cond.initialized RX6 ∈ fw_U := fw_mem (List.mem_of_getElem? (i := 5) (by decide +kernel)) (by decide +kernel)
theorem ini_X1 : Cond.initialized RX1 ∈ fw_U := fw_mem (List.mem_of_getElem? (i := 6) (by decide +kernel)) (by decide +kernel)
theorem ini_X4 : Cond.initialized RX4 ∈ fw_U := fw_mem (List.mem_of_getElem? (i := 7) (by decide +kernel)) (by decide +kernel)
theorem ini_X5 : Cond.initialized RX5 ∈ fw_U := fw_mem (List.mem_of_getElem? (i := 8) (by decide +kernel)) (by decide +kernel)
theorem ini_X8 : Cond.initialized RX8 ∈ fw_U := fw_mem (List.mem_of_getElem? (i := 9) (by decide +kernel)) (by decide +kernel)
theorem j_L_7 : Cond.classLink RL 7 RX7 ∈ fw_U := fw_mem (List.mem_of_getElem? (i := 10) (by decide +kernel)) (by decide +kernel)
theorem in_X7 : Cond.instantiable RX7 7 ∈ fw_U := fw_mem (List.mem_of_getElem? (i := 11) (by decide +kernel)) (by decide +kernel)
theorem m_L_9 : Cond.methodLink RL 9 yX7_init ∈ fw_U := fw_mem (List.mem_of_getElem? (i := 12) (by decide +kernel)) (by decide +kernel)
theorem m_X7_3 : Cond.methodLink RX7 3 Lib.objectInit ∈ fw_U := fw_mem (List.mem_of_getElem? (i := 15) (by decide +kernel)) (by decide +kernel)
theorem j_X7_9 : Cond.classLink RX7 9 RX3 ∈ fw_U := fw_mem (List.mem_of_getElem? (i := 18) (by decide +kernel)) (by decide +kernel)
theorem in_X3 : Cond.instantiable RX3 10 ∈ fw_U := fw_mem (List.mem_of_getElem? (i := 19) (by decide +kernel)) (by decide +kernel)
theorem m_X7_11 : Cond.methodLink RX7 11 yX3_init ∈ fw_U := fw_mem (List.mem_of_getElem? (i := 20) (by decide +kernel)) (by decide +kernel)
theorem m_X3_3 : Cond.methodLink RX3 3 Lib.objectInit ∈ fw_U := fw_mem (List.mem_of_getElem? (i := 23) (by decide +kernel)) (by decide +kernel)
theorem j_X3_9 : Cond.classLink RX3 9 RX2 ∈ fw_U := fw_mem (List.mem_of_getElem? (i := 24) (by decide +kernel)) (by decide +kernel)
theorem in_X2 : Cond.instantiable RX2 7 ∈ fw_U := fw_mem (List.mem_of_getElem? (i := 26) (by decide +kernel)) (by decide +kernel)
theorem m_X3_17 : Cond.methodLink RX3 17 yX2_init ∈ fw_U := fw_mem (List.mem_of_getElem? (i := 27) (by decide +kernel)) (by decide +kernel)
theorem m_X2_3 : Cond.methodLink RX2 3 Lib.objectInit ∈ fw_U := fw_mem (List.mem_of_getElem? (i := 30) (by decide +kernel)) (by decide +kernel)
theorem j_X2_9 : Cond.classLink RX2 9 RX0 ∈ fw_U := fw_mem (List.mem_of_getElem? (i := 31) (by decide +kernel)) (by decide +kernel)
theorem in_X0 : Cond.instantiable RX0 4 ∈ fw_U := fw_mem (List.mem_of_getElem? (i := 33) (by decide +kernel)) (by decide +kernel)
theorem m_X0_1 : Cond.methodLink RX0 1 Lib.objectInit ∈ fw_U := fw_mem (List.mem_of_getElem? (i := 37) (by decide +kernel)) (by decide +kernel)
theorem l_X0_7 : Cond.fieldLink RX0 7 "SnakeTrades$Bite" "size" "I" ∈ fw_U := fw_mem (List.mem_of_getElem? (i := 38) (by decide +kernel)) (by decide +kernel)
theorem l_X2_35 : Cond.fieldLink RX2 35 "SnakeTrades$Bite" "size" "I" ∈ fw_U := fw_mem (List.mem_of_getElem? (i := 39) (by decide +kernel)) (by decide +kernel)
theorem l_X7_175 : Cond.fieldLink RX7 175 "SnakeTrades$Bite" "size" "I" ∈ fw_U := fw_mem (List.mem_of_getElem? (i := 40) (by decide +kernel)) (by decide +kernel)
theorem l_X3_147 : Cond.fieldLink RX3 147 "SnakeTrades$Bite" "size" "I" ∈ fw_U := fw_mem (List.mem_of_getElem? (i := 41) (by decide +kernel)) (by decide +kernel)
theorem l_X0_13 : Cond.fieldLink RX0 13 "SnakeTrades$Bite" "timesSold" "I" ∈ fw_U := fw_mem (List.mem_of_getElem? (i := 42) (by decide +kernel)) (by decide +kernel)
theorem l_X7_180 : Cond.fieldLink RX7 180 "SnakeTrades$Bite" "timesSold" "I" ∈ fw_U := fw_mem (List.mem_of_getElem? (i := 43) (by decide +kernel)) (by decide +kernel)
theorem l_X3_154 : Cond.fieldLink RX3 154 "SnakeTrades$Bite" "timesSold" "I" ∈ fw_U := fw_mem (List.mem_of_getElem? (i := 44) (by decide +kernel)) (by decide +kernel)
theorem l_X0_16 : Cond.fieldLink RX0 16 "SnakeTrades$Bite" "bitten" "I" ∈ fw_U := fw_mem (List.mem_of_getElem? (i := 45) (by decide +kernel)) (by decide +kernel)
theorem l_X7_183 : Cond.fieldLink RX7 183 "SnakeTrades$Bite" "bitten" "I" ∈ fw_U := fw_mem (List.mem_of_getElem? (i := 46) (by decide +kernel)) (by decide +kernel)
theorem l_X0_19 : Cond.fieldLink RX0 19 "SnakeTrades$Bite" "holders" "I" ∈ fw_U := fw_mem (List.mem_of_getElem? (i := 47) (by decide +kernel)) (by decide +kernel)
theorem l_X7_186 : Cond.fieldLink RX7 186 "SnakeTrades$Bite" "holders" "I" ∈ fw_U := fw_mem (List.mem_of_getElem? (i := 48) (by decide +kernel)) (by decide +kernel)
theorem l_X2_11 : Cond.fieldLink RX2 11 "SnakeTrades$Piece" "bites" "[LSnakeTrades$Bite;" ∈ fw_U := fw_mem (List.mem_of_getElem? (i := 58) (by decide +kernel)) (by decide +kernel)
theorem l_X2_28 : Cond.fieldLink RX2 28 "SnakeTrades$Piece" "held" "I" ∈ fw_U := fw_mem (List.mem_of_getElem? (i := 59) (by decide +kernel)) (by decide +kernel)
theorem l_X3_91 : Cond.fieldLink RX3 91 "SnakeTrades$Piece" "held" "I" ∈ fw_U := fw_mem (List.mem_of_getElem? (i := 60) (by decide +kernel)) (by decide +kernel)
theorem l_X7_153 : Cond.fieldLink RX7 153 "SnakeTrades$Piece" "held" "I" ∈ fw_U := fw_mem (List.mem_of_getElem? (i := 61) (by decide +kernel)) (by decide +kernel)
theorem l_X2_25 : Cond.fieldLink RX2 25 "SnakeTrades$Piece" "square" "I" ∈ fw_U := fw_mem (List.mem_of_getElem? (i := 62) (by decide +kernel)) (by decide +kernel)
theorem l_X3_82 : Cond.fieldLink RX3 82 "SnakeTrades$Piece" "square" "I" ∈ fw_U := fw_mem (List.mem_of_getElem? (i := 63) (by decide +kernel)) (by decide +kernel)
theorem l_X7_145 : Cond.fieldLink RX7 145 "SnakeTrades$Piece" "square" "I" ∈ fw_U := fw_mem (List.mem_of_getElem? (i := 64) (by decide +kernel)) (by decide +kernel)
theorem l_X2_18 : Cond.fieldLink RX2 18 "SnakeTrades$Piece" "coins" "I" ∈ fw_U := fw_mem (List.mem_of_getElem? (i := 65) (by decide +kernel)) (by decide +kernel)
theorem l_X3_94 : Cond.fieldLink RX3 94 "SnakeTrades$Piece" "coins" "I" ∈ fw_U := fw_mem (List.mem_of_getElem? (i := 66) (by decide +kernel)) (by decide +kernel)
theorem l_X7_150 : Cond.fieldLink RX7 150 "SnakeTrades$Piece" "coins" "I" ∈ fw_U := fw_mem (List.mem_of_getElem? (i := 67) (by decide +kernel)) (by decide +kernel)
theorem l_X2_22 : Cond.fieldLink RX2 22 "SnakeTrades$Piece" "place" "I" ∈ fw_U := fw_mem (List.mem_of_getElem? (i := 68) (by decide +kernel)) (by decide +kernel)
theorem l_X7_162 : Cond.fieldLink RX7 162 "SnakeTrades$Piece" "place" "I" ∈ fw_U := fw_mem (List.mem_of_getElem? (i := 69) (by decide +kernel)) (by decide +kernel)
theorem l_X3_112 : Cond.fieldLink RX3 112 "SnakeTrades$Piece" "place" "I" ∈ fw_U := fw_mem (List.mem_of_getElem? (i := 70) (by decide +kernel)) (by decide +kernel)
theorem l_X2_48 : Cond.fieldLink RX2 48 "SnakeTrades$Piece" "timesBitten" "I" ∈ fw_U := fw_mem (List.mem_of_getElem? (i := 71) (by decide +kernel)) (by decide +kernel)
theorem l_X7_165 : Cond.fieldLink RX7 165 "SnakeTrades$Piece" "timesBitten" "I" ∈ fw_U := fw_mem (List.mem_of_getElem? (i := 72) (by decide +kernel)) (by decide +kernel)
theorem l_X3_144 : Cond.fieldLink RX3 144 "SnakeTrades$Piece" "timesBitten" "I" ∈ fw_U := fw_mem (List.mem_of_getElem? (i := 73) (by decide +kernel)) (by decide +kernel)
theorem l_X2_45 : Cond.fieldLink RX2 45 "SnakeTrades$Piece" "movedBack" "I" ∈ fw_U := fw_mem (List.mem_of_getElem? (i := 74) (by decide +kernel)) (by decide +kernel)
theorem l_X7_168 : Cond.fieldLink RX7 168 "SnakeTrades$Piece" "movedBack" "I" ∈ fw_U := fw_mem (List.mem_of_getElem? (i := 75) (by decide +kernel)) (by decide +kernel)
theorem j_X3_18 : Cond.classLink RX3 18 RX6 ∈ fw_U := fw_mem (List.mem_of_getElem? (i := 91) (by decide +kernel)) (by decide +kernel)
theorem in_X6 : Cond.instantiable RX6 4 ∈ fw_U := fw_mem (List.mem_of_getElem? (i := 93) (by decide +kernel)) (by decide +kernel)
theorem m_X6_1 : Cond.methodLink RX6 1 Lib.objectInit ∈ fw_U := fw_mem (List.mem_of_getElem? (i := 97) (by decide +kernel)) (by decide +kernel)
theorem l_X6_7 : Cond.fieldLink RX6 7 "SnakeTrades$Snake" "head" "I" ∈ fw_U := fw_mem (List.mem_of_getElem? (i := 98) (by decide +kernel)) (by decide +kernel)
theorem l_X5_62 : Cond.fieldLink RX5 62 "SnakeTrades$Snake" "head" "I" ∈ fw_U := fw_mem (List.mem_of_getElem? (i := 99) (by decide +kernel)) (by decide +kernel)
theorem l_X3_76 : Cond.fieldLink RX3 76 "SnakeTrades$Snake" "head" "I" ∈ fw_U := fw_mem (List.mem_of_getElem? (i := 100) (by decide +kernel)) (by decide +kernel)
theorem l_X7_189 : Cond.fieldLink RX7 189 "SnakeTrades$Snake" "head" "I" ∈ fw_U := fw_mem (List.mem_of_getElem? (i := 101) (by decide +kernel)) (by decide +kernel)
theorem l_X6_13 : Cond.fieldLink RX6 13 "SnakeTrades$Snake" "tail" "I" ∈ fw_U := fw_mem (List.mem_of_getElem? (i := 102) (by decide +kernel)) (by decide +kernel)
theorem l_X5_57 : Cond.fieldLink RX5 57 "SnakeTrades$Snake" "tail" "I" ∈ fw_U := fw_mem (List.mem_of_getElem? (i := 103) (by decide +kernel)) (by decide +kernel)
theorem l_X3_79 : Cond.fieldLink RX3 79 "SnakeTrades$Snake" "tail" "I" ∈ fw_U := fw_mem (List.mem_of_getElem? (i := 104) (by decide +kernel)) (by decide +kernel)
theorem l_X7_192 : Cond.fieldLink RX7 192 "SnakeTrades$Snake" "tail" "I" ∈ fw_U := fw_mem (List.mem_of_getElem? (i := 105) (by decide +kernel)) (by decide +kernel)
theorem l_X6_16 : Cond.fieldLink RX6 16 "SnakeTrades$Snake" "sleep" "I" ∈ fw_U := fw_mem (List.mem_of_getElem? (i := 106) (by decide +kernel)) (by decide +kernel)
theorem l_X7_76 : Cond.fieldLink RX7 76 "SnakeTrades$Snake" "sleep" "I" ∈ fw_U := fw_mem (List.mem_of_getElem? (i := 107) (by decide +kernel)) (by decide +kernel)
theorem l_X3_125 : Cond.fieldLink RX3 125 "SnakeTrades$Snake" "sleep" "I" ∈ fw_U := fw_mem (List.mem_of_getElem? (i := 108) (by decide +kernel)) (by decide +kernel)
theorem l_X6_19 : Cond.fieldLink RX6 19 "SnakeTrades$Snake" "timesBiting" "I" ∈ fw_U := fw_mem (List.mem_of_getElem? (i := 109) (by decide +kernel)) (by decide +kernel)
theorem l_X7_195 : Cond.fieldLink RX7 195 "SnakeTrades$Snake" "timesBiting" "I" ∈ fw_U := fw_mem (List.mem_of_getElem? (i := 110) (by decide +kernel)) (by decide +kernel)
theorem l_X3_141 : Cond.fieldLink RX3 141 "SnakeTrades$Snake" "timesBiting" "I" ∈ fw_U := fw_mem (List.mem_of_getElem? (i := 111) (by decide +kernel)) (by decide +kernel)
theorem l_X3_11 : Cond.fieldLink RX3 11 "SnakeTrades$Race" "pieces" "[LSnakeTrades$Piece;" ∈ fw_U := fw_mem (List.mem_of_getElem? (i := 121) (by decide +kernel)) (by decide +kernel)
theorem l_X3_20 : Cond.fieldLink RX3 20 "SnakeTrades$Race" "snakes" "[LSnakeTrades$Snake;" ∈ fw_U := fw_mem (List.mem_of_getElem? (i := 122) (by decide +kernel)) (by decide +kernel)
theorem l_X3_25 : Cond.fieldLink RX3 25 "SnakeTrades$Race" "sleepSetting" "I" ∈ fw_U := fw_mem (List.mem_of_getElem? (i := 123) (by decide +kernel)) (by decide +kernel)
theorem l_X3_29 : Cond.fieldLink RX3 29 "SnakeTrades$Race" "limitSetting" "I" ∈ fw_U := fw_mem (List.mem_of_getElem? (i := 124) (by decide +kernel)) (by decide +kernel)
theorem l_X3_32 : Cond.fieldLink RX3 32 "SnakeTrades$Race" "tradesSetting" "I" ∈ fw_U := fw_mem (List.mem_of_getElem? (i := 125) (by decide +kernel)) (by decide +kernel)
theorem l_X3_50 : Cond.fieldLink RX3 50 "SnakeTrades$Race" "mover" "I" ∈ fw_U := fw_mem (List.mem_of_getElem? (i := 126) (by decide +kernel)) (by decide +kernel)
theorem l_X7_204 : Cond.fieldLink RX7 204 "SnakeTrades$Race" "mover" "I" ∈ fw_U := fw_mem (List.mem_of_getElem? (i := 127) (by decide +kernel)) (by decide +kernel)
theorem l_X3_53 : Cond.fieldLink RX3 53 "SnakeTrades$Race" "turns" "I" ∈ fw_U := fw_mem (List.mem_of_getElem? (i := 128) (by decide +kernel)) (by decide +kernel)
theorem l_X7_138 : Cond.fieldLink RX7 138 "SnakeTrades$Race" "turns" "I" ∈ fw_U := fw_mem (List.mem_of_getElem? (i := 129) (by decide +kernel)) (by decide +kernel)
theorem l_X3_56 : Cond.fieldLink RX3 56 "SnakeTrades$Race" "arrived" "I" ∈ fw_U := fw_mem (List.mem_of_getElem? (i := 130) (by decide +kernel)) (by decide +kernel)
theorem l_X3_59 : Cond.fieldLink RX3 59 "SnakeTrades$Race" "bitesSoFar" "I" ∈ fw_U := fw_mem (List.mem_of_getElem? (i := 131) (by decide +kernel)) (by decide +kernel)
theorem l_X7_216 : Cond.fieldLink RX7 216 "SnakeTrades$Race" "bitesSoFar" "I" ∈ fw_U := fw_mem (List.mem_of_getElem? (i := 132) (by decide +kernel)) (by decide +kernel)
theorem l_X3_62 : Cond.fieldLink RX3 62 "SnakeTrades$Race" "salesSoFar" "I" ∈ fw_U := fw_mem (List.mem_of_getElem? (i := 133) (by decide +kernel)) (by decide +kernel)
theorem l_X7_219 : Cond.fieldLink RX7 219 "SnakeTrades$Race" "salesSoFar" "I" ∈ fw_U := fw_mem (List.mem_of_getElem? (i := 134) (by decide +kernel)) (by decide +kernel)
theorem j_X7_22 : Cond.classLink RX7 22 RX1 ∈ fw_U := fw_mem (List.mem_of_getElem? (i := 156) (by decide +kernel)) (by decide +kernel)
theorem in_X1 : Cond.instantiable RX1 2 ∈ fw_U := fw_mem (List.mem_of_getElem? (i := 157) (by decide +kernel)) (by decide +kernel)
theorem m_X7_24 : Cond.methodLink RX7 24 yX1_init ∈ fw_U := fw_mem (List.mem_of_getElem? (i := 158) (by decide +kernel)) (by decide +kernel)
theorem m_X1_3 : Cond.methodLink RX1 3 Lib.objectInit ∈ fw_U := fw_mem (List.mem_of_getElem? (i := 161) (by decide +kernel)) (by decide +kernel)
theorem j_X1_9 : Cond.classLink RX1 9 RX3 ∈ fw_U := fw_mem (List.mem_of_getElem? (i := 162) (by decide +kernel)) (by decide +kernel)
theorem m_X1_17 : Cond.methodLink RX1 17 yX3_init ∈ fw_U := fw_mem (List.mem_of_getElem? (i := 164) (by decide +kernel)) (by decide +kernel)
theorem l_X1_11 : Cond.fieldLink RX1 11 "SnakeTrades$Past" "states" "[LSnakeTrades$Race;" ∈ fw_U := fw_mem (List.mem_of_getElem? (i := 165) (by decide +kernel)) (by decide +kernel)
theorem l_X1_18 : Cond.fieldLink RX1 18 "SnakeTrades$Past" "held" "I" ∈ fw_U := fw_mem (List.mem_of_getElem? (i := 166) (by decide +kernel)) (by decide +kernel)
theorem l_X7_225 : Cond.fieldLink RX7 225 "SnakeTrades$Past" "held" "I" ∈ fw_U := fw_mem (List.mem_of_getElem? (i := 167) (by decide +kernel)) (by decide +kernel)
theorem j_X7_29 : Cond.classLink RX7 29 RX4 ∈ fw_U := fw_mem (List.mem_of_getElem? (i := 173) (by decide +kernel)) (by decide +kernel)
theorem in_X4 : Cond.instantiable RX4 2 ∈ fw_U := fw_mem (List.mem_of_getElem? (i := 174) (by decide +kernel)) (by decide +kernel)
theorem m_X7_31 : Cond.methodLink RX7 31 yX4_init ∈ fw_U := fw_mem (List.mem_of_getElem? (i := 175) (by decide +kernel)) (by decide +kernel)
theorem m_X4_3 : Cond.methodLink RX4 3 Lib.objectInit ∈ fw_U := fw_mem (List.mem_of_getElem? (i := 178) (by decide +kernel)) (by decide +kernel)
theorem l_X4_9 : Cond.fieldLink RX4 9 "SnakeTrades$Script" "signs" "[I" ∈ fw_U := fw_mem (List.mem_of_getElem? (i := 179) (by decide +kernel)) (by decide +kernel)
theorem l_X4_15 : Cond.fieldLink RX4 15 "SnakeTrades$Script" "length" "I" ∈ fw_U := fw_mem (List.mem_of_getElem? (i := 180) (by decide +kernel)) (by decide +kernel)
theorem l_X7_122 : Cond.fieldLink RX7 122 "SnakeTrades$Script" "length" "I" ∈ fw_U := fw_mem (List.mem_of_getElem? (i := 181) (by decide +kernel)) (by decide +kernel)
theorem ac_int : Cond.arrayClass .int ∈ fw_U := fw_mem (List.mem_of_getElem? (i := 187) (by decide +kernel)) (by decide +kernel)
theorem j_X7_36 : Cond.classLink RX7 36 RX5 ∈ fw_U := fw_mem (List.mem_of_getElem? (i := 188) (by decide +kernel)) (by decide +kernel)
theorem in_X5 : Cond.instantiable RX5 3 ∈ fw_U := fw_mem (List.mem_of_getElem? (i := 189) (by decide +kernel)) (by decide +kernel)
theorem m_X7_38 : Cond.methodLink RX7 38 yX5_init ∈ fw_U := fw_mem (List.mem_of_getElem? (i := 190) (by decide +kernel)) (by decide +kernel)
theorem m_X5_3 : Cond.methodLink RX5 3 Lib.objectInit ∈ fw_U := fw_mem (List.mem_of_getElem? (i := 193) (by decide +kernel)) (by decide +kernel)
theorem l_X5_9 : Cond.fieldLink RX5 9 "SnakeTrades$Search" "throwsTo" "[I" ∈ fw_U := fw_mem (List.mem_of_getElem? (i := 194) (by decide +kernel)) (by decide +kernel)
theorem l_X5_15 : Cond.fieldLink RX5 15 "SnakeTrades$Search" "queue" "[I" ∈ fw_U := fw_mem (List.mem_of_getElem? (i := 195) (by decide +kernel)) (by decide +kernel)
theorem l_X5_22 : Cond.fieldLink RX5 22 "SnakeTrades$Search" "queued" "I" ∈ fw_U := fw_mem (List.mem_of_getElem? (i := 196) (by decide +kernel)) (by decide +kernel)
theorem l_X7_12 : Cond.fieldLink RX7 12 "SnakeTrades" "race" "LSnakeTrades$Race;" ∈ fw_U := fw_mem (List.mem_of_getElem? (i := 204) (by decide +kernel)) (by decide +kernel)
theorem l_X7_16 : Cond.fieldLink RX7 16 "SnakeTrades" "trial" "LSnakeTrades$Race;" ∈ fw_U := fw_mem (List.mem_of_getElem? (i := 205) (by decide +kernel)) (by decide +kernel)
theorem l_X7_19 : Cond.fieldLink RX7 19 "SnakeTrades" "snapshot" "LSnakeTrades$Race;" ∈ fw_U := fw_mem (List.mem_of_getElem? (i := 206) (by decide +kernel)) (by decide +kernel)
theorem l_X7_25 : Cond.fieldLink RX7 25 "SnakeTrades" "past" "LSnakeTrades$Past;" ∈ fw_U := fw_mem (List.mem_of_getElem? (i := 207) (by decide +kernel)) (by decide +kernel)
theorem l_X7_32 : Cond.fieldLink RX7 32 "SnakeTrades" "script" "LSnakeTrades$Script;" ∈ fw_U := fw_mem (List.mem_of_getElem? (i := 208) (by decide +kernel)) (by decide +kernel)
theorem l_X7_39 : Cond.fieldLink RX7 39 "SnakeTrades" "search" "LSnakeTrades$Search;" ∈ fw_U := fw_mem (List.mem_of_getElem? (i := 209) (by decide +kernel)) (by decide +kernel)
theorem l_X7_43 : Cond.fieldLink RX7 43 "SnakeTrades" "hasSnapshot" "Z" ∈ fw_U := fw_mem (List.mem_of_getElem? (i := 210) (by decide +kernel)) (by decide +kernel)
theorem m_L_13 : Cond.methodLink RL 13 yX7_snake ∈ fw_U := fw_mem (List.mem_of_getElem? (i := 226) (by decide +kernel)) (by decide +kernel)
theorem m_X7_47 : Cond.methodLink RX7 47 yX7_isSnakeForm ∈ fw_U := fw_mem (List.mem_of_getElem? (i := 230) (by decide +kernel)) (by decide +kernel)
theorem m_X7_51 : Cond.methodLink RX7 51 yX3_numberOfHeadOn ∈ fw_U := fw_mem (List.mem_of_getElem? (i := 233) (by decide +kernel)) (by decide +kernel)
theorem m_X3_73 : Cond.methodLink RX3 73 yX3_snakeNumbered ∈ fw_U := fw_mem (List.mem_of_getElem? (i := 237) (by decide +kernel)) (by decide +kernel)
theorem m_X3_43 : Cond.methodLink RX3 43 yX3_placeOfSnake ∈ fw_U := fw_mem (List.mem_of_getElem? (i := 241) (by decide +kernel)) (by decide +kernel)
theorem m_X3_69 : Cond.methodLink RX3 69 yX6_isThere ∈ fw_U := fw_mem (List.mem_of_getElem? (i := 245) (by decide +kernel)) (by decide +kernel)
theorem m_X7_55 : Cond.methodLink RX7 55 yX3_freeNumber ∈ fw_U := fw_mem (List.mem_of_getElem? (i := 249) (by decide +kernel)) (by decide +kernel)
theorem m_X7_59 : Cond.methodLink RX7 59 yX3_placeOfSnake ∈ fw_U := fw_mem (List.mem_of_getElem? (i := 253) (by decide +kernel)) (by decide +kernel)
theorem m_X7_63 : Cond.methodLink RX7 63 yX1_remember ∈ fw_U := fw_mem (List.mem_of_getElem? (i := 254) (by decide +kernel)) (by decide +kernel)
theorem m_X1_22 : Cond.methodLink RX1 22 yX1_dropOldest ∈ fw_U := fw_mem (List.mem_of_getElem? (i := 258) (by decide +kernel)) (by decide +kernel)
theorem m_X1_25 : Cond.methodLink RX1 25 yX1_stateAt ∈ fw_U := fw_mem (List.mem_of_getElem? (i := 262) (by decide +kernel)) (by decide +kernel)
theorem m_X1_29 : Cond.methodLink RX1 29 yX3_copyFrom ∈ fw_U := fw_mem (List.mem_of_getElem? (i := 266) (by decide +kernel)) (by decide +kernel)
theorem m_X3_35 : Cond.methodLink RX3 35 yX3_pieceOf ∈ fw_U := fw_mem (List.mem_of_getElem? (i := 270) (by decide +kernel)) (by decide +kernel)
theorem m_X3_39 : Cond.methodLink RX3 39 yX2_copyFrom ∈ fw_U := fw_mem (List.mem_of_getElem? (i := 274) (by decide +kernel)) (by decide +kernel)
theorem m_X2_31 : Cond.methodLink RX2 31 yX2_biteAt ∈ fw_U := fw_mem (List.mem_of_getElem? (i := 278) (by decide +kernel)) (by decide +kernel)
theorem m_X2_51 : Cond.methodLink RX2 51 yX0_copyFrom ∈ fw_U := fw_mem (List.mem_of_getElem? (i := 282) (by decide +kernel)) (by decide +kernel)
theorem m_X3_47 : Cond.methodLink RX3 47 yX6_copyFrom ∈ fw_U := fw_mem (List.mem_of_getElem? (i := 286) (by decide +kernel)) (by decide +kernel)
theorem m_X7_67 : Cond.methodLink RX7 67 yX6_appear ∈ fw_U := fw_mem (List.mem_of_getElem? (i := 290) (by decide +kernel)) (by decide +kernel)
theorem m_L_18 : Cond.methodLink RL 18 yX7_charm ∈ fw_U := fw_mem (List.mem_of_getElem? (i := 294) (by decide +kernel)) (by decide +kernel)
theorem m_X7_73 : Cond.methodLink RX7 73 yX3_snakeNumbered ∈ fw_U := fw_mem (List.mem_of_getElem? (i := 298) (by decide +kernel)) (by decide +kernel)
theorem m_X7_80 : Cond.methodLink RX7 80 yX6_vanish ∈ fw_U := fw_mem (List.mem_of_getElem? (i := 299) (by decide +kernel)) (by decide +kernel)
theorem m_X6_22 : Cond.methodLink RX6 22 yX6_appear ∈ fw_U := fw_mem (List.mem_of_getElem? (i := 303) (by decide +kernel)) (by decide +kernel)
theorem m_L_22 : Cond.methodLink RL 22 yX7_turn ∈ fw_U := fw_mem (List.mem_of_getElem? (i := 304) (by decide +kernel)) (by decide +kernel)
theorem m_X7_83 : Cond.methodLink RX7 83 yX3_isOver ∈ fw_U := fw_mem (List.mem_of_getElem? (i := 308) (by decide +kernel)) (by decide +kernel)
theorem m_X7_87 : Cond.methodLink RX7 87 yX3_makeTurn ∈ fw_U := fw_mem (List.mem_of_getElem? (i := 312) (by decide +kernel)) (by decide +kernel)
theorem m_X3_97 : Cond.methodLink RX3 97 yX2_hurt ∈ fw_U := fw_mem (List.mem_of_getElem? (i := 316) (by decide +kernel)) (by decide +kernel)
theorem m_X2_42 : Cond.methodLink RX2 42 yX2_nextBeginning ∈ fw_U := fw_mem (List.mem_of_getElem? (i := 320) (by decide +kernel)) (by decide +kernel)
theorem m_X2_38 : Cond.methodLink RX2 38 yX2_sizesTogether ∈ fw_U := fw_mem (List.mem_of_getElem? (i := 324) (by decide +kernel)) (by decide +kernel)
theorem m_X3_104 : Cond.methodLink RX3 104 yX3_biterOf ∈ fw_U := fw_mem (List.mem_of_getElem? (i := 331) (by decide +kernel)) (by decide +kernel)
theorem m_X3_122 : Cond.methodLink RX3 122 yX3_numberOfHeadOn ∈ fw_U := fw_mem (List.mem_of_getElem? (i := 335) (by decide +kernel)) (by decide +kernel)
theorem m_X3_128 : Cond.methodLink RX3 128 yX3_piecesOn ∈ fw_U := fw_mem (List.mem_of_getElem? (i := 336) (by decide +kernel)) (by decide +kernel)
theorem m_X3_108 : Cond.methodLink RX3 108 yX3_biteWith ∈ fw_U := fw_mem (List.mem_of_getElem? (i := 340) (by decide +kernel)) (by decide +kernel)
theorem m_X3_131 : Cond.methodLink RX3 131 yX2_newLast ∈ fw_U := fw_mem (List.mem_of_getElem? (i := 344) (by decide +kernel)) (by decide +kernel)
theorem m_X3_135 : Cond.methodLink RX3 135 yX0_begin ∈ fw_U := fw_mem (List.mem_of_getElem? (i := 348) (by decide +kernel)) (by decide +kernel)
theorem m_X3_85 : Cond.methodLink RX3 85 yX2_isInRace ∈ fw_U := fw_mem (List.mem_of_getElem? (i := 352) (by decide +kernel)) (by decide +kernel)
theorem m_X3_115 : Cond.methodLink RX3 115 yX3_shortenSleeps ∈ fw_U := fw_mem (List.mem_of_getElem? (i := 356) (by decide +kernel)) (by decide +kernel)
theorem m_X3_118 : Cond.methodLink RX3 118 yX3_moverAfter ∈ fw_U := fw_mem (List.mem_of_getElem? (i := 360) (by decide +kernel)) (by decide +kernel)
theorem m_X3_88 : Cond.methodLink RX3 88 yX3_isInRace ∈ fw_U := fw_mem (List.mem_of_getElem? (i := 364) (by decide +kernel)) (by decide +kernel)
theorem m_L_27 : Cond.methodLink RL 27 yX7_play ∈ fw_U := fw_mem (List.mem_of_getElem? (i := 368) (by decide +kernel)) (by decide +kernel)
theorem m_X7_90 : Cond.methodLink RX7 90 yX7_isDraw ∈ fw_U := fw_mem (List.mem_of_getElem? (i := 372) (by decide +kernel)) (by decide +kernel)
theorem cst_X7_250 : Cond.constant RX7 250 65535 ∈ fw_U := fw_mem (List.mem_of_getElem? (i := 375) (by decide +kernel)) (by decide +kernel)
theorem m_X7_94 : Cond.methodLink RX7 94 yX7_drawAfter ∈ fw_U := fw_mem (List.mem_of_getElem? (i := 376) (by decide +kernel)) (by decide +kernel)
theorem cst_X7_251 : Cond.constant RX7 251 65536 ∈ fw_U := fw_mem (List.mem_of_getElem? (i := 379) (by decide +kernel)) (by decide +kernel)
theorem m_X7_97 : Cond.methodLink RX7 97 yX7_throwOf ∈ fw_U := fw_mem (List.mem_of_getElem? (i := 380) (by decide +kernel)) (by decide +kernel)
theorem m_L_31 : Cond.methodLink RL 31 yX7_sell ∈ fw_U := fw_mem (List.mem_of_getElem? (i := 383) (by decide +kernel)) (by decide +kernel)
theorem m_X7_100 : Cond.methodLink RX7 100 yX3_obstacle ∈ fw_U := fw_mem (List.mem_of_getElem? (i := 387) (by decide +kernel)) (by decide +kernel)
theorem m_X3_150 : Cond.methodLink RX3 150 yX3_biteOf ∈ fw_U := fw_mem (List.mem_of_getElem? (i := 391) (by decide +kernel)) (by decide +kernel)
theorem m_X3_65 : Cond.methodLink RX3 65 yX2_biteAt ∈ fw_U := fw_mem (List.mem_of_getElem? (i := 395) (by decide +kernel)) (by decide +kernel)
theorem m_X3_157 : Cond.methodLink RX3 157 yX0_wasHeldBy ∈ fw_U := fw_mem (List.mem_of_getElem? (i := 396) (by decide +kernel)) (by decide +kernel)
theorem m_X3_160 : Cond.methodLink RX3 160 yX3_askedBy ∈ fw_U := fw_mem (List.mem_of_getElem? (i := 400) (by decide +kernel)) (by decide +kernel)
theorem m_X7_104 : Cond.methodLink RX7 104 yX3_trade ∈ fw_U := fw_mem (List.mem_of_getElem? (i := 404) (by decide +kernel)) (by decide +kernel)
theorem m_X3_164 : Cond.methodLink RX3 164 yX3_obstacle ∈ fw_U := fw_mem (List.mem_of_getElem? (i := 408) (by decide +kernel)) (by decide +kernel)
theorem m_X3_168 : Cond.methodLink RX3 168 yX0_copyFrom ∈ fw_U := fw_mem (List.mem_of_getElem? (i := 409) (by decide +kernel)) (by decide +kernel)
theorem m_X3_171 : Cond.methodLink RX3 171 yX0_passTo ∈ fw_U := fw_mem (List.mem_of_getElem? (i := 410) (by decide +kernel)) (by decide +kernel)
theorem m_X3_175 : Cond.methodLink RX3 175 yX2_remove ∈ fw_U := fw_mem (List.mem_of_getElem? (i := 414) (by decide +kernel)) (by decide +kernel)
theorem m_L_36 : Cond.methodLink RL 36 yX7_set ∈ fw_U := fw_mem (List.mem_of_getElem? (i := 418) (by decide +kernel)) (by decide +kernel)
theorem m_X7_107 : Cond.methodLink RX7 107 yX7_leastValue ∈ fw_U := fw_mem (List.mem_of_getElem? (i := 422) (by decide +kernel)) (by decide +kernel)
theorem m_X7_110 : Cond.methodLink RX7 110 yX7_highestValue ∈ fw_U := fw_mem (List.mem_of_getElem? (i := 425) (by decide +kernel)) (by decide +kernel)
theorem m_X7_113 : Cond.methodLink RX7 113 yX3_settingOf ∈ fw_U := fw_mem (List.mem_of_getElem? (i := 428) (by decide +kernel)) (by decide +kernel)
theorem m_X7_116 : Cond.methodLink RX7 116 yX3_changeSetting ∈ fw_U := fw_mem (List.mem_of_getElem? (i := 432) (by decide +kernel)) (by decide +kernel)
theorem m_L_40 : Cond.methodLink RL 40 yX7_append ∈ fw_U := fw_mem (List.mem_of_getElem? (i := 436) (by decide +kernel)) (by decide +kernel)
theorem m_X7_119 : Cond.methodLink RX7 119 yX4_add ∈ fw_U := fw_mem (List.mem_of_getElem? (i := 440) (by decide +kernel)) (by decide +kernel)
theorem m_L_44 : Cond.methodLink RL 44 yX7_clearText ∈ fw_U := fw_mem (List.mem_of_getElem? (i := 444) (by decide +kernel)) (by decide +kernel)
theorem m_L_49 : Cond.methodLink RL 49 yX7_fault ∈ fw_U := fw_mem (List.mem_of_getElem? (i := 448) (by decide +kernel)) (by decide +kernel)
theorem m_X7_125 : Cond.methodLink RX7 125 yX4_firstFault ∈ fw_U := fw_mem (List.mem_of_getElem? (i := 452) (by decide +kernel)) (by decide +kernel)
theorem m_X4_19 : Cond.methodLink RX4 19 yX4_signAt ∈ fw_U := fw_mem (List.mem_of_getElem? (i := 456) (by decide +kernel)) (by decide +kernel)
theorem m_X4_23 : Cond.methodLink RX4 23 yX4_readAfter ∈ fw_U := fw_mem (List.mem_of_getElem? (i := 460) (by decide +kernel)) (by decide +kernel)
theorem m_X4_27 : Cond.methodLink RX4 27 yX4_isFrom ∈ fw_U := fw_mem (List.mem_of_getElem? (i := 463) (by decide +kernel)) (by decide +kernel)
theorem m_L_53 : Cond.methodLink RL 53 yX7_run ∈ fw_U := fw_mem (List.mem_of_getElem? (i := 466) (by decide +kernel)) (by decide +kernel)
theorem m_X7_128 : Cond.methodLink RX7 128 yX4_carryOut ∈ fw_U := fw_mem (List.mem_of_getElem? (i := 470) (by decide +kernel)) (by decide +kernel)
theorem m_X4_31 : Cond.methodLink RX4 31 yX3_makeTurn ∈ fw_U := fw_mem (List.mem_of_getElem? (i := 474) (by decide +kernel)) (by decide +kernel)
theorem m_X4_36 : Cond.methodLink RX4 36 yX4_tradeFrom ∈ fw_U := fw_mem (List.mem_of_getElem? (i := 475) (by decide +kernel)) (by decide +kernel)
theorem m_X4_40 : Cond.methodLink RX4 40 yX3_trade ∈ fw_U := fw_mem (List.mem_of_getElem? (i := 479) (by decide +kernel)) (by decide +kernel)
theorem m_L_57 : Cond.methodLink RL 57 yX7_undo ∈ fw_U := fw_mem (List.mem_of_getElem? (i := 480) (by decide +kernel)) (by decide +kernel)
theorem m_X7_132 : Cond.methodLink RX7 132 yX1_bringBack ∈ fw_U := fw_mem (List.mem_of_getElem? (i := 484) (by decide +kernel)) (by decide +kernel)
theorem m_L_61 : Cond.methodLink RL 61 yX7_save ∈ fw_U := fw_mem (List.mem_of_getElem? (i := 488) (by decide +kernel)) (by decide +kernel)
theorem m_X7_135 : Cond.methodLink RX7 135 yX3_copyFrom ∈ fw_U := fw_mem (List.mem_of_getElem? (i := 492) (by decide +kernel)) (by decide +kernel)
theorem m_L_65 : Cond.methodLink RL 65 yX7_restore ∈ fw_U := fw_mem (List.mem_of_getElem? (i := 493) (by decide +kernel)) (by decide +kernel)
theorem m_L_69 : Cond.methodLink RL 69 yX7_player ∈ fw_U := fw_mem (List.mem_of_getElem? (i := 497) (by decide +kernel)) (by decide +kernel)
theorem m_X7_141 : Cond.methodLink RX7 141 yX3_pieceOf ∈ fw_U := fw_mem (List.mem_of_getElem? (i := 501) (by decide +kernel)) (by decide +kernel)
theorem m_X7_156 : Cond.methodLink RX7 156 yX2_sizesTogether ∈ fw_U := fw_mem (List.mem_of_getElem? (i := 502) (by decide +kernel)) (by decide +kernel)
theorem m_X7_159 : Cond.methodLink RX7 159 yX2_nextBeginning ∈ fw_U := fw_mem (List.mem_of_getElem? (i := 503) (by decide +kernel)) (by decide +kernel)
theorem m_L_73 : Cond.methodLink RL 73 yX7_bite ∈ fw_U := fw_mem (List.mem_of_getElem? (i := 504) (by decide +kernel)) (by decide +kernel)
theorem m_X7_171 : Cond.methodLink RX7 171 yX3_biteOf ∈ fw_U := fw_mem (List.mem_of_getElem? (i := 508) (by decide +kernel)) (by decide +kernel)
theorem m_L_78 : Cond.methodLink RL 78 yX7_snakeOf ∈ fw_U := fw_mem (List.mem_of_getElem? (i := 509) (by decide +kernel)) (by decide +kernel)
theorem m_L_82 : Cond.methodLink RL 82 yX7_square ∈ fw_U := fw_mem (List.mem_of_getElem? (i := 513) (by decide +kernel)) (by decide +kernel)
theorem m_X7_198 : Cond.methodLink RX7 198 yX3_piecesOn ∈ fw_U := fw_mem (List.mem_of_getElem? (i := 517) (by decide +kernel)) (by decide +kernel)
theorem m_X7_201 : Cond.methodLink RX7 201 yX3_tailsOn ∈ fw_U := fw_mem (List.mem_of_getElem? (i := 518) (by decide +kernel)) (by decide +kernel)
theorem m_L_86 : Cond.methodLink RL 86 yX7_count ∈ fw_U := fw_mem (List.mem_of_getElem? (i := 522) (by decide +kernel)) (by decide +kernel)
theorem m_X7_207 : Cond.methodLink RX7 207 yX3_playersInRace ∈ fw_U := fw_mem (List.mem_of_getElem? (i := 526) (by decide +kernel)) (by decide +kernel)
theorem m_X7_210 : Cond.methodLink RX7 210 yX3_snakesThere ∈ fw_U := fw_mem (List.mem_of_getElem? (i := 530) (by decide +kernel)) (by decide +kernel)
theorem m_X7_213 : Cond.methodLink RX7 213 yX3_bitesHeld ∈ fw_U := fw_mem (List.mem_of_getElem? (i := 534) (by decide +kernel)) (by decide +kernel)
theorem m_X7_222 : Cond.methodLink RX7 222 yX3_coinsOfAll ∈ fw_U := fw_mem (List.mem_of_getElem? (i := 538) (by decide +kernel)) (by decide +kernel)
theorem m_L_90 : Cond.methodLink RL 90 yX7_why ∈ fw_U := fw_mem (List.mem_of_getElem? (i := 542) (by decide +kernel)) (by decide +kernel)
theorem m_L_94 : Cond.methodLink RL 94 yX7_cheapest ∈ fw_U := fw_mem (List.mem_of_getElem? (i := 546) (by decide +kernel)) (by decide +kernel)
theorem m_X7_226 : Cond.methodLink RX7 226 yX3_askedBy ∈ fw_U := fw_mem (List.mem_of_getElem? (i := 550) (by decide +kernel)) (by decide +kernel)
theorem m_L_98 : Cond.methodLink RL 98 yX7_dangers ∈ fw_U := fw_mem (List.mem_of_getElem? (i := 551) (by decide +kernel)) (by decide +kernel)
theorem m_X7_230 : Cond.methodLink RX7 230 yX2_isInRace ∈ fw_U := fw_mem (List.mem_of_getElem? (i := 555) (by decide +kernel)) (by decide +kernel)
theorem m_X7_233 : Cond.methodLink RX7 233 yX7_landing ∈ fw_U := fw_mem (List.mem_of_getElem? (i := 556) (by decide +kernel)) (by decide +kernel)
theorem m_X7_237 : Cond.methodLink RX7 237 yX3_biterOf ∈ fw_U := fw_mem (List.mem_of_getElem? (i := 557) (by decide +kernel)) (by decide +kernel)
theorem m_L_102 : Cond.methodLink RL 102 yX7_fewest ∈ fw_U := fw_mem (List.mem_of_getElem? (i := 558) (by decide +kernel)) (by decide +kernel)
theorem m_X7_241 : Cond.methodLink RX7 241 yX5_onFrom ∈ fw_U := fw_mem (List.mem_of_getElem? (i := 562) (by decide +kernel)) (by decide +kernel)
theorem m_X5_18 : Cond.methodLink RX5 18 yX5_start ∈ fw_U := fw_mem (List.mem_of_getElem? (i := 566) (by decide +kernel)) (by decide +kernel)
theorem m_X5_39 : Cond.methodLink RX5 39 yX5_see ∈ fw_U := fw_mem (List.mem_of_getElem? (i := 570) (by decide +kernel)) (by decide +kernel)
theorem m_X5_26 : Cond.methodLink RX5 26 yX5_throwsAt ∈ fw_U := fw_mem (List.mem_of_getElem? (i := 574) (by decide +kernel)) (by decide +kernel)
theorem m_X5_34 : Cond.methodLink RX5 34 yX3_beginningAfter ∈ fw_U := fw_mem (List.mem_of_getElem? (i := 579) (by decide +kernel)) (by decide +kernel)
theorem m_X7_245 : Cond.methodLink RX7 245 yX5_backTo ∈ fw_U := fw_mem (List.mem_of_getElem? (i := 583) (by decide +kernel)) (by decide +kernel)
theorem m_X5_43 : Cond.methodLink RX5 43 yX5_seeLandingsThatLeadTo ∈ fw_U := fw_mem (List.mem_of_getElem? (i := 587) (by decide +kernel)) (by decide +kernel)
theorem m_X5_47 : Cond.methodLink RX5 47 yX3_numberOfHeadOn ∈ fw_U := fw_mem (List.mem_of_getElem? (i := 591) (by decide +kernel)) (by decide +kernel)
theorem m_X5_50 : Cond.methodLink RX5 50 yX5_seeSquaresBefore ∈ fw_U := fw_mem (List.mem_of_getElem? (i := 592) (by decide +kernel)) (by decide +kernel)
theorem m_X5_53 : Cond.methodLink RX5 53 yX3_snakeNumbered ∈ fw_U := fw_mem (List.mem_of_getElem? (i := 596) (by decide +kernel)) (by decide +kernel)
theorem m_L_106 : Cond.methodLink RL 106 yX7_nextHome ∈ fw_U := fw_mem (List.mem_of_getElem? (i := 597) (by decide +kernel)) (by decide +kernel)
theorem m_L_110 : Cond.methodLink RL 110 yX7_progress ∈ fw_U := fw_mem (List.mem_of_getElem? (i := 601) (by decide +kernel)) (by decide +kernel)
theorem cstd_X7_248 : Cond.constantDouble RX7 248 4633641066610819072 ∈ fw_U := fw_mem (List.mem_of_getElem? (i := 605) (by decide +kernel)) (by decide +kernel)
theorem j_L_10 : Cond.classLink RL 10 RX8 ∈ fw_U := fw_mem (List.mem_of_getElem? (i := 606) (by decide +kernel)) (by decide +kernel)
theorem in_X8 : Cond.instantiable RX8 14 ∈ fw_U := fw_mem (List.mem_of_getElem? (i := 607) (by decide +kernel)) (by decide +kernel)
theorem m_L_12 : Cond.methodLink RL 12 yX8_init ∈ fw_U := fw_mem (List.mem_of_getElem? (i := 608) (by decide +kernel)) (by decide +kernel)
theorem m_X8_1 : Cond.methodLink RX8 1 Lib.objectInit ∈ fw_U := fw_mem (List.mem_of_getElem? (i := 611) (by decide +kernel)) (by decide +kernel)
theorem l_X8_7 : Cond.fieldLink RX8 7 "SnakeTradesModel" "s" "[I" ∈ fw_U := fw_mem (List.mem_of_getElem? (i := 612) (by decide +kernel)) (by decide +kernel)
theorem l_X8_13 : Cond.fieldLink RX8 13 "SnakeTradesModel" "history" "[I" ∈ fw_U := fw_mem (List.mem_of_getElem? (i := 613) (by decide +kernel)) (by decide +kernel)
theorem l_X8_50 : Cond.fieldLink RX8 50 "SnakeTradesModel" "kept" "I" ∈ fw_U := fw_mem (List.mem_of_getElem? (i := 614) (by decide +kernel)) (by decide +kernel)
theorem l_X8_16 : Cond.fieldLink RX8 16 "SnakeTradesModel" "snapshot" "[I" ∈ fw_U := fw_mem (List.mem_of_getElem? (i := 615) (by decide +kernel)) (by decide +kernel)
theorem l_X8_173 : Cond.fieldLink RX8 173 "SnakeTradesModel" "isTaken" "Z" ∈ fw_U := fw_mem (List.mem_of_getElem? (i := 616) (by decide +kernel)) (by decide +kernel)
theorem l_X8_19 : Cond.fieldLink RX8 19 "SnakeTradesModel" "before" "[I" ∈ fw_U := fw_mem (List.mem_of_getElem? (i := 617) (by decide +kernel)) (by decide +kernel)
theorem l_X8_22 : Cond.fieldLink RX8 22 "SnakeTradesModel" "text" "[I" ∈ fw_U := fw_mem (List.mem_of_getElem? (i := 618) (by decide +kernel)) (by decide +kernel)
theorem l_X8_139 : Cond.fieldLink RX8 139 "SnakeTradesModel" "length" "I" ∈ fw_U := fw_mem (List.mem_of_getElem? (i := 619) (by decide +kernel)) (by decide +kernel)
theorem l_X8_142 : Cond.fieldLink RX8 142 "SnakeTradesModel" "place" "I" ∈ fw_U := fw_mem (List.mem_of_getElem? (i := 620) (by decide +kernel)) (by decide +kernel)
theorem l_X8_151 : Cond.fieldLink RX8 151 "SnakeTradesModel" "dice" "I" ∈ fw_U := fw_mem (List.mem_of_getElem? (i := 621) (by decide +kernel)) (by decide +kernel)
theorem l_X8_25 : Cond.fieldLink RX8 25 "SnakeTradesModel" "told" "[I" ∈ fw_U := fw_mem (List.mem_of_getElem? (i := 622) (by decide +kernel)) (by decide +kernel)
theorem l_X8_160 : Cond.fieldLink RX8 160 "SnakeTradesModel" "done" "I" ∈ fw_U := fw_mem (List.mem_of_getElem? (i := 623) (by decide +kernel)) (by decide +kernel)
theorem l_X8_28 : Cond.fieldLink RX8 28 "SnakeTradesModel" "begins" "[Z" ∈ fw_U := fw_mem (List.mem_of_getElem? (i := 624) (by decide +kernel)) (by decide +kernel)
theorem l_X8_32 : Cond.fieldLink RX8 32 "SnakeTradesModel" "beginsThen" "[Z" ∈ fw_U := fw_mem (List.mem_of_getElem? (i := 625) (by decide +kernel)) (by decide +kernel)
theorem ac_boolean : Cond.arrayClass .boolean ∈ fw_U := fw_mem (List.mem_of_getElem? (i := 655) (by decide +kernel)) (by decide +kernel)
theorem m_L_17 : Cond.methodLink RL 17 yX8_snake ∈ fw_U := fw_mem (List.mem_of_getElem? (i := 656) (by decide +kernel)) (by decide +kernel)
theorem m_X8_35 : Cond.methodLink RX8 35 yX8_in ∈ fw_U := fw_mem (List.mem_of_getElem? (i := 660) (by decide +kernel)) (by decide +kernel)
theorem m_X8_65 : Cond.methodLink RX8 65 yX8_snakeAt ∈ fw_U := fw_mem (List.mem_of_getElem? (i := 663) (by decide +kernel)) (by decide +kernel)
theorem m_X8_47 : Cond.methodLink RX8 47 yX8_ofSnake ∈ fw_U := fw_mem (List.mem_of_getElem? (i := 667) (by decide +kernel)) (by decide +kernel)
theorem m_X8_106 : Cond.methodLink RX8 106 yX8_snakes ∈ fw_U := fw_mem (List.mem_of_getElem? (i := 671) (by decide +kernel)) (by decide +kernel)
theorem m_X8_110 : Cond.methodLink RX8 110 yX8_record ∈ fw_U := fw_mem (List.mem_of_getElem? (i := 675) (by decide +kernel)) (by decide +kernel)
theorem m_X8_54 : Cond.methodLink RX8 54 yX8_copy ∈ fw_U := fw_mem (List.mem_of_getElem? (i := 679) (by decide +kernel)) (by decide +kernel)
theorem m_X8_113 : Cond.methodLink RX8 113 yX8_isSnake ∈ fw_U := fw_mem (List.mem_of_getElem? (i := 682) (by decide +kernel)) (by decide +kernel)
theorem m_L_21 : Cond.methodLink RL 21 yX8_charm ∈ fw_U := fw_mem (List.mem_of_getElem? (i := 686) (by decide +kernel)) (by decide +kernel)
theorem m_L_26 : Cond.methodLink RL 26 yX8_turn ∈ fw_U := fw_mem (List.mem_of_getElem? (i := 690) (by decide +kernel)) (by decide +kernel)
theorem m_X8_116 : Cond.methodLink RX8 116 yX8_turnError ∈ fw_U := fw_mem (List.mem_of_getElem? (i := 694) (by decide +kernel)) (by decide +kernel)
theorem m_X8_92 : Cond.methodLink RX8 92 yX8_isOver ∈ fw_U := fw_mem (List.mem_of_getElem? (i := 698) (by decide +kernel)) (by decide +kernel)
theorem m_X8_119 : Cond.methodLink RX8 119 yX8_doTurn ∈ fw_U := fw_mem (List.mem_of_getElem? (i := 702) (by decide +kernel)) (by decide +kernel)
theorem m_X8_79 : Cond.methodLink RX8 79 yX8_beginsAt ∈ fw_U := fw_mem (List.mem_of_getElem? (i := 706) (by decide +kernel)) (by decide +kernel)
theorem m_X8_43 : Cond.methodLink RX8 43 yX8_of ∈ fw_U := fw_mem (List.mem_of_getElem? (i := 710) (by decide +kernel)) (by decide +kernel)
theorem m_X8_61 : Cond.methodLink RX8 61 yX8_hurts ∈ fw_U := fw_mem (List.mem_of_getElem? (i := 714) (by decide +kernel)) (by decide +kernel)
theorem m_X8_58 : Cond.methodLink RX8 58 yX8_whereIs ∈ fw_U := fw_mem (List.mem_of_getElem? (i := 718) (by decide +kernel)) (by decide +kernel)
theorem m_X8_71 : Cond.methodLink RX8 71 yX8_add ∈ fw_U := fw_mem (List.mem_of_getElem? (i := 721) (by decide +kernel)) (by decide +kernel)
theorem m_X8_82 : Cond.methodLink RX8 82 yX8_goOn ∈ fw_U := fw_mem (List.mem_of_getElem? (i := 725) (by decide +kernel)) (by decide +kernel)
theorem m_X8_85 : Cond.methodLink RX8 85 yX8_bites ∈ fw_U := fw_mem (List.mem_of_getElem? (i := 728) (by decide +kernel)) (by decide +kernel)
theorem m_X8_68 : Cond.methodLink RX8 68 yX8_piecesAt ∈ fw_U := fw_mem (List.mem_of_getElem? (i := 732) (by decide +kernel)) (by decide +kernel)
theorem m_X8_89 : Cond.methodLink RX8 89 yX8_beBitten ∈ fw_U := fw_mem (List.mem_of_getElem? (i := 736) (by decide +kernel)) (by decide +kernel)
theorem m_X8_75 : Cond.methodLink RX8 75 yX8_getBite ∈ fw_U := fw_mem (List.mem_of_getElem? (i := 740) (by decide +kernel)) (by decide +kernel)
theorem m_X8_96 : Cond.methodLink RX8 96 yX8_isIn ∈ fw_U := fw_mem (List.mem_of_getElem? (i := 744) (by decide +kernel)) (by decide +kernel)
theorem m_L_30 : Cond.methodLink RL 30 yX8_play ∈ fw_U := fw_mem (List.mem_of_getElem? (i := 748) (by decide +kernel)) (by decide +kernel)
theorem cst_X8_122 : Cond.constant RX8 122 65535 ∈ fw_U := fw_mem (List.mem_of_getElem? (i := 752) (by decide +kernel)) (by decide +kernel)
theorem m_X8_123 : Cond.methodLink RX8 123 yX8_draw ∈ fw_U := fw_mem (List.mem_of_getElem? (i := 753) (by decide +kernel)) (by decide +kernel)
theorem cst_X8_99 : Cond.constant RX8 99 65536 ∈ fw_U := fw_mem (List.mem_of_getElem? (i := 756) (by decide +kernel)) (by decide +kernel)
theorem m_X8_126 : Cond.methodLink RX8 126 yX8_diceOf ∈ fw_U := fw_mem (List.mem_of_getElem? (i := 757) (by decide +kernel)) (by decide +kernel)
theorem m_L_35 : Cond.methodLink RL 35 yX8_sell ∈ fw_U := fw_mem (List.mem_of_getElem? (i := 760) (by decide +kernel)) (by decide +kernel)
theorem m_X8_129 : Cond.methodLink RX8 129 yX8_sellError ∈ fw_U := fw_mem (List.mem_of_getElem? (i := 764) (by decide +kernel)) (by decide +kernel)
theorem m_X8_103 : Cond.methodLink RX8 103 yX8_isBite ∈ fw_U := fw_mem (List.mem_of_getElem? (i := 768) (by decide +kernel)) (by decide +kernel)
theorem m_X8_39 : Cond.methodLink RX8 39 yX8_isPlayer ∈ fw_U := fw_mem (List.mem_of_getElem? (i := 772) (by decide +kernel)) (by decide +kernel)
theorem m_X8_133 : Cond.methodLink RX8 133 yX8_reason ∈ fw_U := fw_mem (List.mem_of_getElem? (i := 775) (by decide +kernel)) (by decide +kernel)
theorem m_X8_100 : Cond.methodLink RX8 100 yX8_asks ∈ fw_U := fw_mem (List.mem_of_getElem? (i := 779) (by decide +kernel)) (by decide +kernel)
theorem m_X8_136 : Cond.methodLink RX8 136 yX8_doSell ∈ fw_U := fw_mem (List.mem_of_getElem? (i := 783) (by decide +kernel)) (by decide +kernel)
theorem m_L_39 : Cond.methodLink RL 39 yX8_set ∈ fw_U := fw_mem (List.mem_of_getElem? (i := 787) (by decide +kernel)) (by decide +kernel)
theorem m_L_43 : Cond.methodLink RL 43 yX8_append ∈ fw_U := fw_mem (List.mem_of_getElem? (i := 791) (by decide +kernel)) (by decide +kernel)
theorem m_L_48 : Cond.methodLink RL 48 yX8_clearText ∈ fw_U := fw_mem (List.mem_of_getElem? (i := 795) (by decide +kernel)) (by decide +kernel)
theorem m_L_52 : Cond.methodLink RL 52 yX8_fault ∈ fw_U := fw_mem (List.mem_of_getElem? (i := 799) (by decide +kernel)) (by decide +kernel)
theorem m_X8_169 : Cond.methodLink RX8 169 yX8_readText ∈ fw_U := fw_mem (List.mem_of_getElem? (i := 803) (by decide +kernel)) (by decide +kernel)
theorem m_X8_163 : Cond.methodLink RX8 163 yX8_readOrder ∈ fw_U := fw_mem (List.mem_of_getElem? (i := 807) (by decide +kernel)) (by decide +kernel)
theorem m_X8_145 : Cond.methodLink RX8 145 yX8_isNext ∈ fw_U := fw_mem (List.mem_of_getElem? (i := 811) (by decide +kernel)) (by decide +kernel)
theorem m_X8_154 : Cond.methodLink RX8 154 yX8_takes ∈ fw_U := fw_mem (List.mem_of_getElem? (i := 815) (by decide +kernel)) (by decide +kernel)
theorem m_X8_148 : Cond.methodLink RX8 148 yX8_take ∈ fw_U := fw_mem (List.mem_of_getElem? (i := 819) (by decide +kernel)) (by decide +kernel)
theorem m_X8_157 : Cond.methodLink RX8 157 yX8_readCoins ∈ fw_U := fw_mem (List.mem_of_getElem? (i := 823) (by decide +kernel)) (by decide +kernel)
theorem m_X8_166 : Cond.methodLink RX8 166 yX8_does ∈ fw_U := fw_mem (List.mem_of_getElem? (i := 827) (by decide +kernel)) (by decide +kernel)
theorem m_L_56 : Cond.methodLink RL 56 yX8_run ∈ fw_U := fw_mem (List.mem_of_getElem? (i := 831) (by decide +kernel)) (by decide +kernel)
theorem m_L_60 : Cond.methodLink RL 60 yX8_undo ∈ fw_U := fw_mem (List.mem_of_getElem? (i := 835) (by decide +kernel)) (by decide +kernel)
theorem m_L_64 : Cond.methodLink RL 64 yX8_save ∈ fw_U := fw_mem (List.mem_of_getElem? (i := 839) (by decide +kernel)) (by decide +kernel)
theorem m_L_68 : Cond.methodLink RL 68 yX8_restore ∈ fw_U := fw_mem (List.mem_of_getElem? (i := 843) (by decide +kernel)) (by decide +kernel)
theorem m_L_72 : Cond.methodLink RL 72 yX8_player ∈ fw_U := fw_mem (List.mem_of_getElem? (i := 847) (by decide +kernel)) (by decide +kernel)
theorem m_L_77 : Cond.methodLink RL 77 yX8_bite ∈ fw_U := fw_mem (List.mem_of_getElem? (i := 851) (by decide +kernel)) (by decide +kernel)
theorem m_L_81 : Cond.methodLink RL 81 yX8_snakeOf ∈ fw_U := fw_mem (List.mem_of_getElem? (i := 855) (by decide +kernel)) (by decide +kernel)
theorem m_L_85 : Cond.methodLink RL 85 yX8_square ∈ fw_U := fw_mem (List.mem_of_getElem? (i := 859) (by decide +kernel)) (by decide +kernel)
theorem m_X8_177 : Cond.methodLink RX8 177 yX8_tailsAt ∈ fw_U := fw_mem (List.mem_of_getElem? (i := 863) (by decide +kernel)) (by decide +kernel)
theorem m_L_89 : Cond.methodLink RL 89 yX8_count ∈ fw_U := fw_mem (List.mem_of_getElem? (i := 867) (by decide +kernel)) (by decide +kernel)
theorem m_X8_180 : Cond.methodLink RX8 180 yX8_sumOf ∈ fw_U := fw_mem (List.mem_of_getElem? (i := 871) (by decide +kernel)) (by decide +kernel)
theorem m_L_93 : Cond.methodLink RL 93 yX8_why ∈ fw_U := fw_mem (List.mem_of_getElem? (i := 875) (by decide +kernel)) (by decide +kernel)
theorem m_L_97 : Cond.methodLink RL 97 yX8_cheapest ∈ fw_U := fw_mem (List.mem_of_getElem? (i := 879) (by decide +kernel)) (by decide +kernel)
theorem m_L_101 : Cond.methodLink RL 101 yX8_dangers ∈ fw_U := fw_mem (List.mem_of_getElem? (i := 883) (by decide +kernel)) (by decide +kernel)
theorem m_L_105 : Cond.methodLink RL 105 yX8_fewest ∈ fw_U := fw_mem (List.mem_of_getElem? (i := 887) (by decide +kernel)) (by decide +kernel)
theorem m_X8_183 : Cond.methodLink RX8 183 yX8_throwsHome ∈ fw_U := fw_mem (List.mem_of_getElem? (i := 891) (by decide +kernel)) (by decide +kernel)
theorem m_L_109 : Cond.methodLink RL 109 yX8_nextHome ∈ fw_U := fw_mem (List.mem_of_getElem? (i := 895) (by decide +kernel)) (by decide +kernel)
theorem m_L_114 : Cond.methodLink RL 114 yX8_progress ∈ fw_U := fw_mem (List.mem_of_getElem? (i := 899) (by decide +kernel)) (by decide +kernel)
theorem cstd_X8_186 : Cond.constantDouble RX8 186 4633641066610819072 ∈ fw_U := fw_mem (List.mem_of_getElem? (i := 903) (by decide +kernel)) (by decide +kernel)
theorem oi_1 : Cond.instanceMethod Lib.objectInit ∈ fw_U := fw_mem (List.mem_of_getElem? (i := 16) (by decide +kernel)) (by decide +kernel)
theorem oi_2 : Cond.code Lib.objectInit ⟨#[0xb1]⟩ 1 none ∈ fw_U := fw_mem (List.mem_of_getElem? (i := 17) (by decide +kernel)) (by decide +kernel)
theorem C0 : fw_cl 0 RX0 TX0 4 tyX0 := ⟨rfl, by decide, fw_memL [49, 51, 53, 55] (by decide +kernel) (by decide +kernel), tyX0_ok, nmX0, fun _ _ _ _ => rfl⟩
theorem C1 : fw_cl 1 RX1 TX1 2 tyX1 := ⟨rfl, by decide, fw_memL [168, 170] (by decide +kernel) (by decide +kernel), tyX1_ok, nmX1, fun _ _ _ _ => rfl⟩
theorem C2 : fw_cl 2 RX2 TX2 7 tyX2 := ⟨rfl, by decide, fw_memL [76, 78, 80, 82, 84, 86, 88] (by decide +kernel) (by decide +kernel), tyX2_ok, nmX2, fun _ _ _ _ => rfl⟩
theorem C3 : fw_cl 3 RX3 TX3 10 tyX3 := ⟨rfl, by decide, fw_memL [135, 137, 139, 141, 143, 145, 147, 149, 151, 153] (by decide +kernel) (by decide +kernel), tyX3_ok, nmX3, fun _ _ _ _ => rfl⟩
theorem C4 : fw_cl 4 RX4 TX4 2 tyX4 := ⟨rfl, by decide, fw_memL [182, 184] (by decide +kernel) (by decide +kernel), tyX4_ok, nmX4, fun _ _ _ _ => rfl⟩
theorem C5 : fw_cl 5 RX5 TX5 3 tyX5 := ⟨rfl, by decide, fw_memL [197, 199, 201] (by decide +kernel) (by decide +kernel), tyX5_ok, nmX5, fun _ _ _ _ => rfl⟩
theorem C6 : fw_cl 6 RX6 TX6 4 tyX6 := ⟨rfl, by decide, fw_memL [112, 114, 116, 118] (by decide +kernel) (by decide +kernel), tyX6_ok, nmX6, fun _ _ _ _ => rfl⟩
theorem C7 : fw_cl 7 RX7 TX7 7 tyX7 := ⟨rfl, by decide, fw_memL [211, 213, 215, 217, 219, 221, 223] (by decide +kernel) (by decide +kernel), tyX7_ok, nmX7, fun _ _ _ _ => rfl⟩
theorem C8 : fw_cl 8 RX8 TX8 14 tyX8 := ⟨rfl, by decide, fw_memL [626, 628, 630, 632, 634, 636, 638, 640, 642, 644, 646, 648, 650, 652] (by decide +kernel) (by decide +kernel), tyX8_ok, nmX8, fun _ _ _ _ => rfl⟩
abbrev kX0_begin : fw_M := (yX0_begin, cX0_begin, 3, none, 0, 0)
theorem o_X0_begin : fw_kv kX0_begin 0 2 := ⟨⟨fw_mem (List.mem_of_getElem? (i := 351) (by decide +kernel)) (by decide +kernel), ini_X0, (by decide +kernel), (by decide +kernel), (by decide +kernel)⟩, fw_mem (List.mem_of_getElem? (i := 349) (by decide +kernel)) (by decide +kernel), fw_mem (List.mem_of_getElem? (i := 350) (by decide +kernel)) (by decide +kernel), by decide, ⟨_, rfl, rfl⟩⟩
abbrev kX0_copyFrom : fw_M := (yX0_copyFrom, cX0_copyFrom, 2, none, 0, 0)
theorem o_X0_copyFrom : fw_kv kX0_copyFrom 0 1 := ⟨⟨fw_mem (List.mem_of_getElem? (i := 285) (by decide +kernel)) (by decide +kernel), ini_X0, (by decide +kernel), (by decide +kernel), (by decide +kernel)⟩, fw_mem (List.mem_of_getElem? (i := 283) (by decide +kernel)) (by decide +kernel), fw_mem (List.mem_of_getElem? (i := 284) (by decide +kernel)) (by decide +kernel), by decide, ⟨_, rfl, rfl⟩⟩
abbrev kX0_init : fw_M := (yX0_init, cX0_init, 1, none, 1, 12)
theorem o_X0_init : fw_ki kX0_init 0 := ⟨⟨fw_mem (List.mem_of_getElem? (i := 36) (by decide +kernel)) (by decide +kernel), ini_X0, (by decide +kernel), (by decide +kernel), (by decide +kernel)⟩, fw_mem (List.mem_of_getElem? (i := 35) (by decide +kernel)) (by decide +kernel), rfl⟩
abbrev kX0_passTo : fw_M := (yX0_passTo, cX0_passTo, 2, none, 0, 0)
theorem o_X0_passTo : fw_kv kX0_passTo 0 1 := ⟨⟨fw_mem (List.mem_of_getElem? (i := 413) (by decide +kernel)) (by decide +kernel), ini_X0, (by decide +kernel), (by decide +kernel), (by decide +kernel)⟩, fw_mem (List.mem_of_getElem? (i := 411) (by decide +kernel)) (by decide +kernel), fw_mem (List.mem_of_getElem? (i := 412) (by decide +kernel)) (by decide +kernel), by decide, ⟨_, rfl, rfl⟩⟩
abbrev kX0_wasHeldBy : fw_M := (yX0_wasHeldBy, cX0_wasHeldBy, 2, (some .boolean), 0, 0)
theorem o_X0_wasHeldBy : fw_kv kX0_wasHeldBy 0 1 := ⟨⟨fw_mem (List.mem_of_getElem? (i := 399) (by decide +kernel)) (by decide +kernel), ini_X0, (by decide +kernel), (by decide +kernel), (by decide +kernel)⟩, fw_mem (List.mem_of_getElem? (i := 397) (by decide +kernel)) (by decide +kernel), fw_mem (List.mem_of_getElem? (i := 398) (by decide +kernel)) (by decide +kernel), by decide, ⟨_, rfl, rfl⟩⟩
abbrev kX2_biteAt : fw_M := (yX2_biteAt, cX2_biteAt, 2, (some (.object "SnakeTrades$Bite")), 0, 0)
theorem o_X2_biteAt : fw_kv kX2_biteAt 2 1 := ⟨⟨fw_mem (List.mem_of_getElem? (i := 281) (by decide +kernel)) (by decide +kernel), ini_X2, (by decide +kernel), (by decide +kernel), (by decide +kernel)⟩, fw_mem (List.mem_of_getElem? (i := 279) (by decide +kernel)) (by decide +kernel), fw_mem (List.mem_of_getElem? (i := 280) (by decide +kernel)) (by decide +kernel), by decide, ⟨_, rfl, rfl⟩⟩
abbrev kX2_copyFrom : fw_M := (yX2_copyFrom, cX2_copyFrom, 5, none, 1, 21)
theorem o_X2_copyFrom : fw_kv kX2_copyFrom 2 1 := ⟨⟨fw_mem (List.mem_of_getElem? (i := 277) (by decide +kernel)) (by decide +kernel), ini_X2, (by decide +kernel), (by decide +kernel), (by decide +kernel)⟩, fw_mem (List.mem_of_getElem? (i := 275) (by decide +kernel)) (by decide +kernel), fw_mem (List.mem_of_getElem? (i := 276) (by decide +kernel)) (by decide +kernel), by decide, ⟨_, rfl, rfl⟩⟩
abbrev kX6_copyFrom : fw_M := (yX6_copyFrom, cX6_copyFrom, 2, none, 0, 0)
theorem o_X6_copyFrom : fw_kv kX6_copyFrom 6 1 := ⟨⟨fw_mem (List.mem_of_getElem? (i := 289) (by decide +kernel)) (by decide +kernel), ini_X6, (by decide +kernel), (by decide +kernel), (by decide +kernel)⟩, fw_mem (List.mem_of_getElem? (i := 287) (by decide +kernel)) (by decide +kernel), fw_mem (List.mem_of_getElem? (i := 288) (by decide +kernel)) (by decide +kernel), by decide, ⟨_, rfl, rfl⟩⟩
abbrev kX3_pieceOf : fw_M := (yX3_pieceOf, cX3_pieceOf, 2, (some (.object "SnakeTrades$Piece")), 0, 0)
theorem o_X3_pieceOf : fw_kv kX3_pieceOf 3 1 := ⟨⟨fw_mem (List.mem_of_getElem? (i := 273) (by decide +kernel)) (by decide +kernel), ini_X3, (by decide +kernel), (by decide +kernel), (by decide +kernel)⟩, fw_mem (List.mem_of_getElem? (i := 271) (by decide +kernel)) (by decide +kernel), fw_mem (List.mem_of_getElem? (i := 272) (by decide +kernel)) (by decide +kernel), by decide, ⟨_, rfl, rfl⟩⟩
abbrev kX3_placeOfSnake : fw_M := (yX3_placeOfSnake, cX3_placeOfSnake, 2, (some (.object "SnakeTrades$Snake")), 0, 0)
theorem o_X3_placeOfSnake : fw_kv kX3_placeOfSnake 3 1 := ⟨⟨fw_mem (List.mem_of_getElem? (i := 244) (by decide +kernel)) (by decide +kernel), ini_X3, (by decide +kernel), (by decide +kernel), (by decide +kernel)⟩, fw_mem (List.mem_of_getElem? (i := 242) (by decide +kernel)) (by decide +kernel), fw_mem (List.mem_of_getElem? (i := 243) (by decide +kernel)) (by decide +kernel), by decide, ⟨_, rfl, rfl⟩⟩
abbrev kX3_copyFrom : fw_M := (yX3_copyFrom, cX3_copyFrom, 5, none, 2, 45)
theorem o_X3_copyFrom : fw_kv kX3_copyFrom 3 1 := ⟨⟨fw_mem (List.mem_of_getElem? (i := 269) (by decide +kernel)) (by decide +kernel), ini_X3, (by decide +kernel), (by decide +kernel), (by decide +kernel)⟩, fw_mem (List.mem_of_getElem? (i := 267) (by decide +kernel)) (by decide +kernel), fw_mem (List.mem_of_getElem? (i := 268) (by decide +kernel)) (by decide +kernel), by decide, ⟨_, rfl, rfl⟩⟩
abbrev kX1_stateAt : fw_M := (yX1_stateAt, cX1_stateAt, 2, (some (.object "SnakeTrades$Race")), 0, 0)
theorem o_X1_stateAt : fw_kv kX1_stateAt 1 1 := ⟨⟨fw_mem (List.mem_of_getElem? (i := 265) (by decide +kernel)) (by decide +kernel), ini_X1, (by decide +kernel), (by decide +kernel), (by decide +kernel)⟩, fw_mem (List.mem_of_getElem? (i := 264) (by decide +kernel)) (by decide +kernel), fw_memS (q := (yX1_stateAt, 2)) (List.mem_of_getElem? (i := 1) (by decide +kernel)) (by decide +kernel), by decide, ⟨_, rfl, rfl⟩⟩
abbrev kX1_bringBack : fw_M := (yX1_bringBack, cX1_bringBack, 3, (some .int), 3, 69)
theorem o_X1_bringBack : fw_kv kX1_bringBack 1 1 := ⟨⟨fw_mem (List.mem_of_getElem? (i := 487) (by decide +kernel)) (by decide +kernel), ini_X1, (by decide +kernel), (by decide +kernel), (by decide +kernel)⟩, fw_mem (List.mem_of_getElem? (i := 485) (by decide +kernel)) (by decide +kernel), fw_mem (List.mem_of_getElem? (i := 486) (by decide +kernel)) (by decide +kernel), by decide, ⟨_, rfl, rfl⟩⟩
abbrev kX1_dropOldest : fw_M := (yX1_dropOldest, cX1_dropOldest, 3, none, 1, 21)
theorem o_X1_dropOldest : fw_kv kX1_dropOldest 1 0 := ⟨⟨fw_mem (List.mem_of_getElem? (i := 261) (by decide +kernel)) (by decide +kernel), ini_X1, (by decide +kernel), (by decide +kernel), (by decide +kernel)⟩, fw_mem (List.mem_of_getElem? (i := 260) (by decide +kernel)) (by decide +kernel), fw_memS (q := (yX1_dropOldest, 2)) (List.mem_of_getElem? (i := 0) (by decide +kernel)) (by decide +kernel), by decide, ⟨_, rfl, rfl⟩⟩
abbrev kX2_init : fw_M := (yX2_init, cX2_init, 2, none, 2, 32)
theorem o_X2_init : fw_ki kX2_init 0 := ⟨⟨fw_mem (List.mem_of_getElem? (i := 29) (by decide +kernel)) (by decide +kernel), ini_X2, (by decide +kernel), (by decide +kernel), (by decide +kernel)⟩, fw_mem (List.mem_of_getElem? (i := 28) (by decide +kernel)) (by decide +kernel), rfl⟩
abbrev kX6_init : fw_M := (yX6_init, cX6_init, 1, none, 1, 12)
theorem o_X6_init : fw_ki kX6_init 0 := ⟨⟨fw_mem (List.mem_of_getElem? (i := 96) (by decide +kernel)) (by decide +kernel), ini_X6, (by decide +kernel), (by decide +kernel), (by decide +kernel)⟩, fw_mem (List.mem_of_getElem? (i := 95) (by decide +kernel)) (by decide +kernel), rfl⟩
abbrev kX3_init : fw_M := (yX3_init, cX3_init, 2, none, 3, 53)
theorem o_X3_init : fw_ki kX3_init 0 := ⟨⟨fw_mem (List.mem_of_getElem? (i := 22) (by decide +kernel)) (by decide +kernel), ini_X3, (by decide +kernel), (by decide +kernel), (by decide +kernel)⟩, fw_mem (List.mem_of_getElem? (i := 21) (by decide +kernel)) (by decide +kernel), rfl⟩
abbrev kX1_init : fw_M := (yX1_init, cX1_init, 2, none, 4, 74)
theorem o_X1_init : fw_ki kX1_init 0 := ⟨⟨fw_mem (List.mem_of_getElem? (i := 160) (by decide +kernel)) (by decide +kernel), ini_X1, (by decide +kernel), (by decide +kernel), (by decide +kernel)⟩, fw_mem (List.mem_of_getElem? (i := 159) (by decide +kernel)) (by decide +kernel), rfl⟩
abbrev kX1_remember : fw_M := (yX1_remember, cX1_remember, 3, none, 3, 69)
theorem o_X1_remember : fw_kv kX1_remember 1 1 := ⟨⟨fw_mem (List.mem_of_getElem? (i := 257) (by decide +kernel)) (by decide +kernel), ini_X1, (by decide +kernel), (by decide +kernel), (by decide +kernel)⟩, fw_mem (List.mem_of_getElem? (i := 255) (by decide +kernel)) (by decide +kernel), fw_mem (List.mem_of_getElem? (i := 256) (by decide +kernel)) (by decide +kernel), by decide, ⟨_, rfl, rfl⟩⟩
abbrev kX2_sizesTogether : fw_M := (yX2_sizesTogether, cX2_sizesTogether, 4, (some .int), 1, 21)
theorem o_X2_sizesTogether : fw_kv kX2_sizesTogether 2 0 := ⟨⟨fw_mem (List.mem_of_getElem? (i := 327) (by decide +kernel)) (by decide +kernel), ini_X2, (by decide +kernel), (by decide +kernel), (by decide +kernel)⟩, fw_mem (List.mem_of_getElem? (i := 325) (by decide +kernel)) (by decide +kernel), fw_mem (List.mem_of_getElem? (i := 326) (by decide +kernel)) (by decide +kernel), by decide, ⟨_, rfl, rfl⟩⟩
abbrev kX2_nextBeginning : fw_M := (yX2_nextBeginning, cX2_nextBeginning, 2, (some .int), 2, 44)
theorem o_X2_nextBeginning : fw_kv kX2_nextBeginning 2 0 := ⟨⟨fw_mem (List.mem_of_getElem? (i := 323) (by decide +kernel)) (by decide +kernel), ini_X2, (by decide +kernel), (by decide +kernel), (by decide +kernel)⟩, fw_mem (List.mem_of_getElem? (i := 321) (by decide +kernel)) (by decide +kernel), fw_mem (List.mem_of_getElem? (i := 322) (by decide +kernel)) (by decide +kernel), by decide, ⟨_, rfl, rfl⟩⟩
abbrev kX2_hurt : fw_M := (yX2_hurt, cX2_hurt, 2, none, 3, 65)
theorem o_X2_hurt : fw_kv kX2_hurt 2 0 := ⟨⟨fw_mem (List.mem_of_getElem? (i := 319) (by decide +kernel)) (by decide +kernel), ini_X2, (by decide +kernel), (by decide +kernel), (by decide +kernel)⟩, fw_mem (List.mem_of_getElem? (i := 317) (by decide +kernel)) (by decide +kernel), fw_mem (List.mem_of_getElem? (i := 318) (by decide +kernel)) (by decide +kernel), by decide, ⟨_, rfl, rfl⟩⟩
abbrev kX2_isInRace : fw_M := (yX2_isInRace, cX2_isInRace, 1, (some .boolean), 0, 0)
theorem o_X2_isInRace : fw_kv kX2_isInRace 2 0 := ⟨⟨fw_mem (List.mem_of_getElem? (i := 355) (by decide +kernel)) (by decide +kernel), ini_X2, (by decide +kernel), (by decide +kernel), (by decide +kernel)⟩, fw_mem (List.mem_of_getElem? (i := 353) (by decide +kernel)) (by decide +kernel), fw_mem (List.mem_of_getElem? (i := 354) (by decide +kernel)) (by decide +kernel), by decide, ⟨_, rfl, rfl⟩⟩
abbrev kX2_newLast : fw_M := (yX2_newLast, cX2_newLast, 1, (some (.object "SnakeTrades$Bite")), 1, 21)
theorem o_X2_newLast : fw_kv kX2_newLast 2 0 := ⟨⟨fw_mem (List.mem_of_getElem? (i := 347) (by decide +kernel)) (by decide +kernel), ini_X2, (by decide +kernel), (by decide +kernel), (by decide +kernel)⟩, fw_mem (List.mem_of_getElem? (i := 345) (by decide +kernel)) (by decide +kernel), fw_mem (List.mem_of_getElem? (i := 346) (by decide +kernel)) (by decide +kernel), by decide, ⟨_, rfl, rfl⟩⟩
abbrev kX2_remove : fw_M := (yX2_remove, cX2_remove, 5, none, 0, 0)
theorem o_X2_remove : fw_kv kX2_remove 2 1 := ⟨⟨fw_mem (List.mem_of_getElem? (i := 417) (by decide +kernel)) (by decide +kernel), ini_X2, (by decide +kernel), (by decide +kernel), (by decide +kernel)⟩, fw_mem (List.mem_of_getElem? (i := 415) (by decide +kernel)) (by decide +kernel), fw_mem (List.mem_of_getElem? (i := 416) (by decide +kernel)) (by decide +kernel), by decide, ⟨_, rfl, rfl⟩⟩
abbrev kX3_askedBy : fw_M := (yX3_askedBy, cX3_askedBy, 5, (some .int), 1, 21)
theorem o_X3_askedBy : fw_kv kX3_askedBy 3 2 := ⟨⟨fw_mem (List.mem_of_getElem? (i := 403) (by decide +kernel)) (by decide +kernel), ini_X3, (by decide +kernel), (by decide +kernel), (by decide +kernel)⟩, fw_mem (List.mem_of_getElem? (i := 401) (by decide +kernel)) (by decide +kernel), fw_mem (List.mem_of_getElem? (i := 402) (by decide +kernel)) (by decide +kernel), by decide, ⟨_, rfl, rfl⟩⟩
abbrev kX6_isThere : fw_M := (yX6_isThere, cX6_isThere, 1, (some .boolean), 0, 0)
theorem o_X6_isThere : fw_kv kX6_isThere 6 0 := ⟨⟨fw_mem (List.mem_of_getElem? (i := 248) (by decide +kernel)) (by decide +kernel), ini_X6, (by decide +kernel), (by decide +kernel), (by decide +kernel)⟩, fw_mem (List.mem_of_getElem? (i := 246) (by decide +kernel)) (by decide +kernel), fw_mem (List.mem_of_getElem? (i := 247) (by decide +kernel)) (by decide +kernel), by decide, ⟨_, rfl, rfl⟩⟩
abbrev kX3_snakeNumbered : fw_M := (yX3_snakeNumbered, cX3_snakeNumbered, 3, (some (.object "SnakeTrades$Snake")), 1, 21)
theorem o_X3_snakeNumbered : fw_kv kX3_snakeNumbered 3 1 := ⟨⟨fw_mem (List.mem_of_getElem? (i := 240) (by decide +kernel)) (by decide +kernel), ini_X3, (by decide +kernel), (by decide +kernel), (by decide +kernel)⟩, fw_mem (List.mem_of_getElem? (i := 238) (by decide +kernel)) (by decide +kernel), fw_mem (List.mem_of_getElem? (i := 239) (by decide +kernel)) (by decide +kernel), by decide, ⟨_, rfl, rfl⟩⟩
abbrev kX3_numberOfHeadOn : fw_M := (yX3_numberOfHeadOn, cX3_numberOfHeadOn, 4, (some .int), 2, 43)
theorem o_X3_numberOfHeadOn : fw_kv kX3_numberOfHeadOn 3 1 := ⟨⟨fw_mem (List.mem_of_getElem? (i := 236) (by decide +kernel)) (by decide +kernel), ini_X3, (by decide +kernel), (by decide +kernel), (by decide +kernel)⟩, fw_mem (List.mem_of_getElem? (i := 234) (by decide +kernel)) (by decide +kernel), fw_mem (List.mem_of_getElem? (i := 235) (by decide +kernel)) (by decide +kernel), by decide, ⟨_, rfl, rfl⟩⟩
abbrev kX3_beginningAfter : fw_M := (yX3_beginningAfter, cX3_beginningAfter, 3, (some .int), 3, 66)
theorem o_X3_beginningAfter : fw_kv kX3_beginningAfter 3 1 := ⟨⟨fw_mem (List.mem_of_getElem? (i := 582) (by decide +kernel)) (by decide +kernel), ini_X3, (by decide +kernel), (by decide +kernel), (by decide +kernel)⟩, fw_mem (List.mem_of_getElem? (i := 580) (by decide +kernel)) (by decide +kernel), fw_mem (List.mem_of_getElem? (i := 581) (by decide +kernel)) (by decide +kernel), by decide, ⟨_, rfl, rfl⟩⟩
abbrev kX3_biteOf : fw_M := (yX3_biteOf, cX3_biteOf, 4, (some (.object "SnakeTrades$Bite")), 1, 21)
theorem o_X3_biteOf : fw_kv kX3_biteOf 3 2 := ⟨⟨fw_mem (List.mem_of_getElem? (i := 394) (by decide +kernel)) (by decide +kernel), ini_X3, (by decide +kernel), (by decide +kernel), (by decide +kernel)⟩, fw_mem (List.mem_of_getElem? (i := 392) (by decide +kernel)) (by decide +kernel), fw_mem (List.mem_of_getElem? (i := 393) (by decide +kernel)) (by decide +kernel), by decide, ⟨_, rfl, rfl⟩⟩
abbrev kX3_biteWith : fw_M := (yX3_biteWith, cX3_biteWith, 5, none, 2, 41)
theorem o_X3_biteWith : fw_kv kX3_biteWith 3 3 := ⟨⟨fw_mem (List.mem_of_getElem? (i := 343) (by decide +kernel)) (by decide +kernel), ini_X3, (by decide +kernel), (by decide +kernel), (by decide +kernel)⟩, fw_mem (List.mem_of_getElem? (i := 342) (by decide +kernel)) (by decide +kernel), fw_memS (q := (yX3_biteWith, 10)) (List.mem_of_getElem? (i := 2) (by decide +kernel)) (by decide +kernel), by decide, ⟨_, rfl, rfl⟩⟩
abbrev kX3_piecesOn : fw_M := (yX3_piecesOn, cX3_piecesOn, 5, (some .int), 1, 21)
theorem o_X3_piecesOn : fw_kv kX3_piecesOn 3 1 := ⟨⟨fw_mem (List.mem_of_getElem? (i := 339) (by decide +kernel)) (by decide +kernel), ini_X3, (by decide +kernel), (by decide +kernel), (by decide +kernel)⟩, fw_mem (List.mem_of_getElem? (i := 337) (by decide +kernel)) (by decide +kernel), fw_mem (List.mem_of_getElem? (i := 338) (by decide +kernel)) (by decide +kernel), by decide, ⟨_, rfl, rfl⟩⟩
abbrev kX3_biterOf : fw_M := (yX3_biterOf, cX3_biterOf, 5, (some (.object "SnakeTrades$Snake")), 3, 66)
theorem o_X3_biterOf : fw_kv kX3_biterOf 3 2 := ⟨⟨fw_mem (List.mem_of_getElem? (i := 334) (by decide +kernel)) (by decide +kernel), ini_X3, (by decide +kernel), (by decide +kernel), (by decide +kernel)⟩, fw_mem (List.mem_of_getElem? (i := 332) (by decide +kernel)) (by decide +kernel), fw_mem (List.mem_of_getElem? (i := 333) (by decide +kernel)) (by decide +kernel), by decide, ⟨_, rfl, rfl⟩⟩
abbrev kX3_bitesHeld : fw_M := (yX3_bitesHeld, cX3_bitesHeld, 4, (some .int), 1, 21)
theorem o_X3_bitesHeld : fw_kv kX3_bitesHeld 3 0 := ⟨⟨fw_mem (List.mem_of_getElem? (i := 537) (by decide +kernel)) (by decide +kernel), ini_X3, (by decide +kernel), (by decide +kernel), (by decide +kernel)⟩, fw_mem (List.mem_of_getElem? (i := 535) (by decide +kernel)) (by decide +kernel), fw_mem (List.mem_of_getElem? (i := 536) (by decide +kernel)) (by decide +kernel), by decide, ⟨_, rfl, rfl⟩⟩
abbrev kX3_changeSetting : fw_M := (yX3_changeSetting, cX3_changeSetting, 3, none, 0, 0)
theorem o_X3_changeSetting : fw_kv kX3_changeSetting 3 2 := ⟨⟨fw_mem (List.mem_of_getElem? (i := 435) (by decide +kernel)) (by decide +kernel), ini_X3, (by decide +kernel), (by decide +kernel), (by decide +kernel)⟩, fw_mem (List.mem_of_getElem? (i := 433) (by decide +kernel)) (by decide +kernel), fw_mem (List.mem_of_getElem? (i := 434) (by decide +kernel)) (by decide +kernel), by decide, ⟨_, rfl, rfl⟩⟩
abbrev kX3_coinsOfAll : fw_M := (yX3_coinsOfAll, cX3_coinsOfAll, 4, (some .int), 1, 21)
theorem o_X3_coinsOfAll : fw_kv kX3_coinsOfAll 3 0 := ⟨⟨fw_mem (List.mem_of_getElem? (i := 541) (by decide +kernel)) (by decide +kernel), ini_X3, (by decide +kernel), (by decide +kernel), (by decide +kernel)⟩, fw_mem (List.mem_of_getElem? (i := 539) (by decide +kernel)) (by decide +kernel), fw_mem (List.mem_of_getElem? (i := 540) (by decide +kernel)) (by decide +kernel), by decide, ⟨_, rfl, rfl⟩⟩
abbrev kX3_freeNumber : fw_M := (yX3_freeNumber, cX3_freeNumber, 2, (some .int), 2, 43)
theorem o_X3_freeNumber : fw_kv kX3_freeNumber 3 0 := ⟨⟨fw_mem (List.mem_of_getElem? (i := 252) (by decide +kernel)) (by decide +kernel), ini_X3, (by decide +kernel), (by decide +kernel), (by decide +kernel)⟩, fw_mem (List.mem_of_getElem? (i := 250) (by decide +kernel)) (by decide +kernel), fw_mem (List.mem_of_getElem? (i := 251) (by decide +kernel)) (by decide +kernel), by decide, ⟨_, rfl, rfl⟩⟩
abbrev kX3_isInRace : fw_M := (yX3_isInRace, cX3_isInRace, 3, (some .boolean), 1, 21)
theorem o_X3_isInRace : fw_kv kX3_isInRace 3 1 := ⟨⟨fw_mem (List.mem_of_getElem? (i := 367) (by decide +kernel)) (by decide +kernel), ini_X3, (by decide +kernel), (by decide +kernel), (by decide +kernel)⟩, fw_mem (List.mem_of_getElem? (i := 365) (by decide +kernel)) (by decide +kernel), fw_mem (List.mem_of_getElem? (i := 366) (by decide +kernel)) (by decide +kernel), by decide, ⟨_, rfl, rfl⟩⟩
abbrev kX3_isOver : fw_M := (yX3_isOver, cX3_isOver, 1, (some .boolean), 0, 0)
theorem o_X3_isOver : fw_kv kX3_isOver 3 0 := ⟨⟨fw_mem (List.mem_of_getElem? (i := 311) (by decide +kernel)) (by decide +kernel), ini_X3, (by decide +kernel), (by decide +kernel), (by decide +kernel)⟩, fw_mem (List.mem_of_getElem? (i := 309) (by decide +kernel)) (by decide +kernel), fw_mem (List.mem_of_getElem? (i := 310) (by decide +kernel)) (by decide +kernel), by decide, ⟨_, rfl, rfl⟩⟩
abbrev kX7_landing : fw_M := (yX7_landing, cX7_landing, 3, (some .int), 0, 0)
theorem o_X7_landing : fw_ks kX7_landing 2 := ⟨⟨fw_mem (List.mem_of_getElem? (i := 330) (by decide +kernel)) (by decide +kernel), ini_X7, (by decide +kernel), (by decide +kernel), (by decide +kernel)⟩, fw_mem (List.mem_of_getElem? (i := 329) (by decide +kernel)) (by decide +kernel)⟩
abbrev kX3_moverAfter : fw_M := (yX3_moverAfter, cX3_moverAfter, 4, (some .int), 2, 43)
theorem o_X3_moverAfter : fw_kv kX3_moverAfter 3 1 := ⟨⟨fw_mem (List.mem_of_getElem? (i := 363) (by decide +kernel)) (by decide +kernel), ini_X3, (by decide +kernel), (by decide +kernel), (by decide +kernel)⟩, fw_mem (List.mem_of_getElem? (i := 362) (by decide +kernel)) (by decide +kernel), fw_memS (q := (yX3_moverAfter, 10)) (List.mem_of_getElem? (i := 4) (by decide +kernel)) (by decide +kernel), by decide, ⟨_, rfl, rfl⟩⟩
abbrev kX3_shortenSleeps : fw_M := (yX3_shortenSleeps, cX3_shortenSleeps, 3, none, 2, 43)
theorem o_X3_shortenSleeps : fw_kv kX3_shortenSleeps 3 0 := ⟨⟨fw_mem (List.mem_of_getElem? (i := 359) (by decide +kernel)) (by decide +kernel), ini_X3, (by decide +kernel), (by decide +kernel), (by decide +kernel)⟩, fw_mem (List.mem_of_getElem? (i := 358) (by decide +kernel)) (by decide +kernel), fw_memS (q := (yX3_shortenSleeps, 10)) (List.mem_of_getElem? (i := 3) (by decide +kernel)) (by decide +kernel), by decide, ⟨_, rfl, rfl⟩⟩
abbrev kX3_makeTurn : fw_M := (yX3_makeTurn, cX3_makeTurn, 5, (some .int), 4, 90)
theorem o_X3_makeTurn : fw_kv kX3_makeTurn 3 1 := ⟨⟨fw_mem (List.mem_of_getElem? (i := 315) (by decide +kernel)) (by decide +kernel), ini_X3, (by decide +kernel), (by decide +kernel), (by decide +kernel)⟩, fw_mem (List.mem_of_getElem? (i := 313) (by decide +kernel)) (by decide +kernel), fw_mem (List.mem_of_getElem? (i := 314) (by decide +kernel)) (by decide +kernel), by decide, ⟨_, rfl, rfl⟩⟩
abbrev kX3_obstacle : fw_M := (yX3_obstacle, cX3_obstacle, 8, (some .int), 2, 45)
theorem o_X3_obstacle : fw_kv kX3_obstacle 3 4 := ⟨⟨fw_mem (List.mem_of_getElem? (i := 390) (by decide +kernel)) (by decide +kernel), ini_X3, (by decide +kernel), (by decide +kernel), (by decide +kernel)⟩, fw_mem (List.mem_of_getElem? (i := 388) (by decide +kernel)) (by decide +kernel), fw_mem (List.mem_of_getElem? (i := 389) (by decide +kernel)) (by decide +kernel), by decide, ⟨_, rfl, rfl⟩⟩
abbrev kX3_playersInRace : fw_M := (yX3_playersInRace, cX3_playersInRace, 3, (some .int), 2, 43)
theorem o_X3_playersInRace : fw_kv kX3_playersInRace 3 0 := ⟨⟨fw_mem (List.mem_of_getElem? (i := 529) (by decide +kernel)) (by decide +kernel), ini_X3, (by decide +kernel), (by decide +kernel), (by decide +kernel)⟩, fw_mem (List.mem_of_getElem? (i := 527) (by decide +kernel)) (by decide +kernel), fw_mem (List.mem_of_getElem? (i := 528) (by decide +kernel)) (by decide +kernel), by decide, ⟨_, rfl, rfl⟩⟩
abbrev kX3_settingOf : fw_M := (yX3_settingOf, cX3_settingOf, 2, (some .int), 0, 0)
theorem o_X3_settingOf : fw_kv kX3_settingOf 3 1 := ⟨⟨fw_mem (List.mem_of_getElem? (i := 431) (by decide +kernel)) (by decide +kernel), ini_X3, (by decide +kernel), (by decide +kernel), (by decide +kernel)⟩, fw_mem (List.mem_of_getElem? (i := 429) (by decide +kernel)) (by decide +kernel), fw_mem (List.mem_of_getElem? (i := 430) (by decide +kernel)) (by decide +kernel), by decide, ⟨_, rfl, rfl⟩⟩
abbrev kX3_snakesThere : fw_M := (yX3_snakesThere, cX3_snakesThere, 3, (some .int), 2, 43)
theorem o_X3_snakesThere : fw_kv kX3_snakesThere 3 0 := ⟨⟨fw_mem (List.mem_of_getElem? (i := 533) (by decide +kernel)) (by decide +kernel), ini_X3, (by decide +kernel), (by decide +kernel), (by decide +kernel)⟩, fw_mem (List.mem_of_getElem? (i := 531) (by decide +kernel)) (by decide +kernel), fw_mem (List.mem_of_getElem? (i := 532) (by decide +kernel)) (by decide +kernel), by decide, ⟨_, rfl, rfl⟩⟩
abbrev kX3_tailsOn : fw_M := (yX3_tailsOn, cX3_tailsOn, 5, (some .int), 2, 43)
theorem o_X3_tailsOn : fw_kv kX3_tailsOn 3 1 := ⟨⟨fw_mem (List.mem_of_getElem? (i := 521) (by decide +kernel)) (by decide +kernel), ini_X3, (by decide +kernel), (by decide +kernel), (by decide +kernel)⟩, fw_mem (List.mem_of_getElem? (i := 519) (by decide +kernel)) (by decide +kernel), fw_mem (List.mem_of_getElem? (i := 520) (by decide +kernel)) (by decide +kernel), by decide, ⟨_, rfl, rfl⟩⟩
abbrev kX3_trade : fw_M := (yX3_trade, cX3_trade, 10, (some .int), 3, 72)
theorem o_X3_trade : fw_kv kX3_trade 3 4 := ⟨⟨fw_mem (List.mem_of_getElem? (i := 407) (by decide +kernel)) (by decide +kernel), ini_X3, (by decide +kernel), (by decide +kernel), (by decide +kernel)⟩, fw_mem (List.mem_of_getElem? (i := 405) (by decide +kernel)) (by decide +kernel), fw_mem (List.mem_of_getElem? (i := 406) (by decide +kernel)) (by decide +kernel), by decide, ⟨_, rfl, rfl⟩⟩
abbrev kX4_add : fw_M := (yX4_add, cX4_add, 2, (some .boolean), 0, 0)
theorem o_X4_add : fw_kv kX4_add 4 1 := ⟨⟨fw_mem (List.mem_of_getElem? (i := 443) (by decide +kernel)) (by decide +kernel), ini_X4, (by decide +kernel), (by decide +kernel), (by decide +kernel)⟩, fw_mem (List.mem_of_getElem? (i := 441) (by decide +kernel)) (by decide +kernel), fw_mem (List.mem_of_getElem? (i := 442) (by decide +kernel)) (by decide +kernel), by decide, ⟨_, rfl, rfl⟩⟩
abbrev kX4_signAt : fw_M := (yX4_signAt, cX4_signAt, 2, (some .int), 0, 0)
theorem o_X4_signAt : fw_kv kX4_signAt 4 1 := ⟨⟨fw_mem (List.mem_of_getElem? (i := 459) (by decide +kernel)) (by decide +kernel), ini_X4, (by decide +kernel), (by decide +kernel), (by decide +kernel)⟩, fw_mem (List.mem_of_getElem? (i := 458) (by decide +kernel)) (by decide +kernel), fw_memS (q := (yX4_signAt, 2)) (List.mem_of_getElem? (i := 5) (by decide +kernel)) (by decide +kernel), by decide, ⟨_, rfl, rfl⟩⟩
abbrev kX4_tradeFrom : fw_M := (yX4_tradeFrom, cX4_tradeFrom, 9, (some .int), 4, 101)
theorem o_X4_tradeFrom : fw_kv kX4_tradeFrom 4 3 := ⟨⟨fw_mem (List.mem_of_getElem? (i := 478) (by decide +kernel)) (by decide +kernel), ini_X4, (by decide +kernel), (by decide +kernel), (by decide +kernel)⟩, fw_mem (List.mem_of_getElem? (i := 477) (by decide +kernel)) (by decide +kernel), fw_memS (q := (yX4_tradeFrom, 2)) (List.mem_of_getElem? (i := 6) (by decide +kernel)) (by decide +kernel), by decide, ⟨_, rfl, rfl⟩⟩
abbrev kX4_carryOut : fw_M := (yX4_carryOut, cX4_carryOut, 7, (some .int), 5, 129)
theorem o_X4_carryOut : fw_kv kX4_carryOut 4 1 := ⟨⟨fw_mem (List.mem_of_getElem? (i := 473) (by decide +kernel)) (by decide +kernel), ini_X4, (by decide +kernel), (by decide +kernel), (by decide +kernel)⟩, fw_mem (List.mem_of_getElem? (i := 471) (by decide +kernel)) (by decide +kernel), fw_mem (List.mem_of_getElem? (i := 472) (by decide +kernel)) (by decide +kernel), by decide, ⟨_, rfl, rfl⟩⟩
abbrev kX4_isFrom : fw_M := (yX4_isFrom, cX4_isFrom, 3, (some .boolean), 0, 0)
theorem o_X4_isFrom : fw_ks kX4_isFrom 3 := ⟨⟨fw_mem (List.mem_of_getElem? (i := 465) (by decide +kernel)) (by decide +kernel), ini_X4, (by decide +kernel), (by decide +kernel), (by decide +kernel)⟩, fw_mem (List.mem_of_getElem? (i := 464) (by decide +kernel)) (by decide +kernel)⟩
abbrev kX4_readAfter : fw_M := (yX4_readAfter, cX4_readAfter, 2, (some .int), 1, 22)
theorem o_X4_readAfter : fw_ks kX4_readAfter 2 := ⟨⟨fw_mem (List.mem_of_getElem? (i := 462) (by decide +kernel)) (by decide +kernel), ini_X4, (by decide +kernel), (by decide +kernel), (by decide +kernel)⟩, fw_mem (List.mem_of_getElem? (i := 461) (by decide +kernel)) (by decide +kernel)⟩
abbrev kX4_firstFault : fw_M := (yX4_firstFault, cX4_firstFault, 3, (some .int), 2, 43)
theorem o_X4_firstFault : fw_kv kX4_firstFault 4 0 := ⟨⟨fw_mem (List.mem_of_getElem? (i := 455) (by decide +kernel)) (by decide +kernel), ini_X4, (by decide +kernel), (by decide +kernel), (by decide +kernel)⟩, fw_mem (List.mem_of_getElem? (i := 453) (by decide +kernel)) (by decide +kernel), fw_mem (List.mem_of_getElem? (i := 454) (by decide +kernel)) (by decide +kernel), by decide, ⟨_, rfl, rfl⟩⟩
abbrev kX4_init : fw_M := (yX4_init, cX4_init, 1, none, 1, 12)
theorem o_X4_init : fw_ki kX4_init 0 := ⟨⟨fw_mem (List.mem_of_getElem? (i := 177) (by decide +kernel)) (by decide +kernel), ini_X4, (by decide +kernel), (by decide +kernel), (by decide +kernel)⟩, fw_mem (List.mem_of_getElem? (i := 176) (by decide +kernel)) (by decide +kernel), rfl⟩
abbrev kX5_see : fw_M := (yX5_see, cX5_see, 3, none, 0, 0)
theorem o_X5_see : fw_kv kX5_see 5 2 := ⟨⟨fw_mem (List.mem_of_getElem? (i := 573) (by decide +kernel)) (by decide +kernel), ini_X5, (by decide +kernel), (by decide +kernel), (by decide +kernel)⟩, fw_mem (List.mem_of_getElem? (i := 572) (by decide +kernel)) (by decide +kernel), fw_memS (q := (yX5_see, 3)) (List.mem_of_getElem? (i := 8) (by decide +kernel)) (by decide +kernel), by decide, ⟨_, rfl, rfl⟩⟩
abbrev kX5_seeSquaresBefore : fw_M := (yX5_seeSquaresBefore, cX5_seeSquaresBefore, 4, none, 1, 22)
theorem o_X5_seeSquaresBefore : fw_kv kX5_seeSquaresBefore 5 2 := ⟨⟨fw_mem (List.mem_of_getElem? (i := 595) (by decide +kernel)) (by decide +kernel), ini_X5, (by decide +kernel), (by decide +kernel), (by decide +kernel)⟩, fw_mem (List.mem_of_getElem? (i := 594) (by decide +kernel)) (by decide +kernel), fw_memS (q := (yX5_seeSquaresBefore, 3)) (List.mem_of_getElem? (i := 11) (by decide +kernel)) (by decide +kernel), by decide, ⟨_, rfl, rfl⟩⟩
abbrev kX5_throwsAt : fw_M := (yX5_throwsAt, cX5_throwsAt, 2, (some .int), 0, 0)
theorem o_X5_throwsAt : fw_kv kX5_throwsAt 5 1 := ⟨⟨fw_mem (List.mem_of_getElem? (i := 577) (by decide +kernel)) (by decide +kernel), ini_X5, (by decide +kernel), (by decide +kernel), (by decide +kernel)⟩, fw_mem (List.mem_of_getElem? (i := 576) (by decide +kernel)) (by decide +kernel), fw_memS (q := (yX5_throwsAt, 3)) (List.mem_of_getElem? (i := 9) (by decide +kernel)) (by decide +kernel), by decide, ⟨_, rfl, rfl⟩⟩
abbrev kX5_seeLandingsThatLeadTo : fw_M := (yX5_seeLandingsThatLeadTo, cX5_seeLandingsThatLeadTo, 6, none, 3, 66)
theorem o_X5_seeLandingsThatLeadTo : fw_kv kX5_seeLandingsThatLeadTo 5 2 := ⟨⟨fw_mem (List.mem_of_getElem? (i := 590) (by decide +kernel)) (by decide +kernel), ini_X5, (by decide +kernel), (by decide +kernel), (by decide +kernel)⟩, fw_mem (List.mem_of_getElem? (i := 589) (by decide +kernel)) (by decide +kernel), fw_memS (q := (yX5_seeLandingsThatLeadTo, 3)) (List.mem_of_getElem? (i := 10) (by decide +kernel)) (by decide +kernel), by decide, ⟨_, rfl, rfl⟩⟩
abbrev kX5_start : fw_M := (yX5_start, cX5_start, 3, none, 1, 22)
theorem o_X5_start : fw_kv kX5_start 5 1 := ⟨⟨fw_mem (List.mem_of_getElem? (i := 569) (by decide +kernel)) (by decide +kernel), ini_X5, (by decide +kernel), (by decide +kernel), (by decide +kernel)⟩, fw_mem (List.mem_of_getElem? (i := 568) (by decide +kernel)) (by decide +kernel), fw_memS (q := (yX5_start, 3)) (List.mem_of_getElem? (i := 7) (by decide +kernel)) (by decide +kernel), by decide, ⟨_, rfl, rfl⟩⟩
abbrev kX5_backTo : fw_M := (yX5_backTo, cX5_backTo, 5, (some .int), 4, 91)
theorem o_X5_backTo : fw_kv kX5_backTo 5 2 := ⟨⟨fw_mem (List.mem_of_getElem? (i := 586) (by decide +kernel)) (by decide +kernel), ini_X5, (by decide +kernel), (by decide +kernel), (by decide +kernel)⟩, fw_mem (List.mem_of_getElem? (i := 584) (by decide +kernel)) (by decide +kernel), fw_mem (List.mem_of_getElem? (i := 585) (by decide +kernel)) (by decide +kernel), by decide, ⟨_, rfl, rfl⟩⟩
abbrev kX5_init : fw_M := (yX5_init, cX5_init, 1, none, 1, 12)
theorem o_X5_init : fw_ki kX5_init 0 := ⟨⟨fw_mem (List.mem_of_getElem? (i := 192) (by decide +kernel)) (by decide +kernel), ini_X5, (by decide +kernel), (by decide +kernel), (by decide +kernel)⟩, fw_mem (List.mem_of_getElem? (i := 191) (by decide +kernel)) (by decide +kernel), rfl⟩
abbrev kX5_onFrom : fw_M := (yX5_onFrom, cX5_onFrom, 6, (some .int), 4, 88)
theorem o_X5_onFrom : fw_kv kX5_onFrom 5 2 := ⟨⟨fw_mem (List.mem_of_getElem? (i := 565) (by decide +kernel)) (by decide +kernel), ini_X5, (by decide +kernel), (by decide +kernel), (by decide +kernel)⟩, fw_mem (List.mem_of_getElem? (i := 563) (by decide +kernel)) (by decide +kernel), fw_mem (List.mem_of_getElem? (i := 564) (by decide +kernel)) (by decide +kernel), by decide, ⟨_, rfl, rfl⟩⟩
abbrev kX6_appear : fw_M := (yX6_appear, cX6_appear, 3, none, 0, 0)
theorem o_X6_appear : fw_kv kX6_appear 6 2 := ⟨⟨fw_mem (List.mem_of_getElem? (i := 293) (by decide +kernel)) (by decide +kernel), ini_X6, (by decide +kernel), (by decide +kernel), (by decide +kernel)⟩, fw_mem (List.mem_of_getElem? (i := 291) (by decide +kernel)) (by decide +kernel), fw_mem (List.mem_of_getElem? (i := 292) (by decide +kernel)) (by decide +kernel), by decide, ⟨_, rfl, rfl⟩⟩
abbrev kX6_vanish : fw_M := (yX6_vanish, cX6_vanish, 1, none, 1, 22)
theorem o_X6_vanish : fw_kv kX6_vanish 6 0 := ⟨⟨fw_mem (List.mem_of_getElem? (i := 302) (by decide +kernel)) (by decide +kernel), ini_X6, (by decide +kernel), (by decide +kernel), (by decide +kernel)⟩, fw_mem (List.mem_of_getElem? (i := 300) (by decide +kernel)) (by decide +kernel), fw_mem (List.mem_of_getElem? (i := 301) (by decide +kernel)) (by decide +kernel), by decide, ⟨_, rfl, rfl⟩⟩
abbrev kX7_append : fw_M := (yX7_append, cX7_append, 2, (some .int), 1, 21)
theorem o_X7_append : fw_kv kX7_append 7 1 := ⟨⟨fw_mem (List.mem_of_getElem? (i := 439) (by decide +kernel)) (by decide +kernel), ini_X7, (by decide +kernel), (by decide +kernel), (by decide +kernel)⟩, fw_mem (List.mem_of_getElem? (i := 437) (by decide +kernel)) (by decide +kernel), fw_mem (List.mem_of_getElem? (i := 438) (by decide +kernel)) (by decide +kernel), by decide, ⟨_, rfl, rfl⟩⟩
abbrev kX7_bite : fw_M := (yX7_bite, cX7_bite, 5, (some .int), 2, 44)
theorem o_X7_bite : fw_kv kX7_bite 7 3 := ⟨⟨fw_mem (List.mem_of_getElem? (i := 507) (by decide +kernel)) (by decide +kernel), ini_X7, (by decide +kernel), (by decide +kernel), (by decide +kernel)⟩, fw_mem (List.mem_of_getElem? (i := 505) (by decide +kernel)) (by decide +kernel), fw_mem (List.mem_of_getElem? (i := 506) (by decide +kernel)) (by decide +kernel), by decide, ⟨_, rfl, rfl⟩⟩
abbrev kX7_charm : fw_M := (yX7_charm, cX7_charm, 5, (some .int), 4, 91)
theorem o_X7_charm : fw_kv kX7_charm 7 2 := ⟨⟨fw_mem (List.mem_of_getElem? (i := 297) (by decide +kernel)) (by decide +kernel), ini_X7, (by decide +kernel), (by decide +kernel), (by decide +kernel)⟩, fw_mem (List.mem_of_getElem? (i := 295) (by decide +kernel)) (by decide +kernel), fw_mem (List.mem_of_getElem? (i := 296) (by decide +kernel)) (by decide +kernel), by decide, ⟨_, rfl, rfl⟩⟩
abbrev kX7_cheapest : fw_M := (yX7_cheapest, cX7_cheapest, 8, (some .int), 3, 72)
theorem o_X7_cheapest : fw_kv kX7_cheapest 7 2 := ⟨⟨fw_mem (List.mem_of_getElem? (i := 549) (by decide +kernel)) (by decide +kernel), ini_X7, (by decide +kernel), (by decide +kernel), (by decide +kernel)⟩, fw_mem (List.mem_of_getElem? (i := 547) (by decide +kernel)) (by decide +kernel), fw_mem (List.mem_of_getElem? (i := 548) (by decide +kernel)) (by decide +kernel), by decide, ⟨_, rfl, rfl⟩⟩
abbrev kX7_clearText : fw_M := (yX7_clearText, cX7_clearText, 2, (some .int), 0, 0)
theorem o_X7_clearText : fw_kv kX7_clearText 7 0 := ⟨⟨fw_mem (List.mem_of_getElem? (i := 447) (by decide +kernel)) (by decide +kernel), ini_X7, (by decide +kernel), (by decide +kernel), (by decide +kernel)⟩, fw_mem (List.mem_of_getElem? (i := 445) (by decide +kernel)) (by decide +kernel), fw_mem (List.mem_of_getElem? (i := 446) (by decide +kernel)) (by decide +kernel), by decide, ⟨_, rfl, rfl⟩⟩
abbrev kX7_count : fw_M := (yX7_count, cX7_count, 2, (some .int), 3, 65)
theorem o_X7_count : fw_kv kX7_count 7 1 := ⟨⟨fw_mem (List.mem_of_getElem? (i := 525) (by decide +kernel)) (by decide +kernel), ini_X7, (by decide +kernel), (by decide +kernel), (by decide +kernel)⟩, fw_mem (List.mem_of_getElem? (i := 523) (by decide +kernel)) (by decide +kernel), fw_mem (List.mem_of_getElem? (i := 524) (by decide +kernel)) (by decide +kernel), by decide, ⟨_, rfl, rfl⟩⟩
abbrev kX7_dangers : fw_M := (yX7_dangers, cX7_dangers, 6, (some .int), 4, 90)
theorem o_X7_dangers : fw_kv kX7_dangers 7 1 := ⟨⟨fw_mem (List.mem_of_getElem? (i := 554) (by decide +kernel)) (by decide +kernel), ini_X7, (by decide +kernel), (by decide +kernel), (by decide +kernel)⟩, fw_mem (List.mem_of_getElem? (i := 552) (by decide +kernel)) (by decide +kernel), fw_mem (List.mem_of_getElem? (i := 553) (by decide +kernel)) (by decide +kernel), by decide, ⟨_, rfl, rfl⟩⟩
abbrev kX7_drawAfter : fw_M := (yX7_drawAfter, cX7_drawAfter, 1, (some .int), 0, 0)
theorem o_X7_drawAfter : fw_ks kX7_drawAfter 1 := ⟨⟨fw_mem (List.mem_of_getElem? (i := 378) (by decide +kernel)) (by decide +kernel), ini_X7, (by decide +kernel), (by decide +kernel), (by decide +kernel)⟩, fw_mem (List.mem_of_getElem? (i := 377) (by decide +kernel)) (by decide +kernel)⟩
abbrev kX7_fault : fw_M := (yX7_fault, cX7_fault, 1, (some .int), 3, 65)
theorem o_X7_fault : fw_kv kX7_fault 7 0 := ⟨⟨fw_mem (List.mem_of_getElem? (i := 451) (by decide +kernel)) (by decide +kernel), ini_X7, (by decide +kernel), (by decide +kernel), (by decide +kernel)⟩, fw_mem (List.mem_of_getElem? (i := 449) (by decide +kernel)) (by decide +kernel), fw_mem (List.mem_of_getElem? (i := 450) (by decide +kernel)) (by decide +kernel), by decide, ⟨_, rfl, rfl⟩⟩
abbrev kX7_fewest : fw_M := (yX7_fewest, cX7_fewest, 5, (some .int), 5, 115)
theorem o_X7_fewest : fw_kv kX7_fewest 7 2 := ⟨⟨fw_mem (List.mem_of_getElem? (i := 561) (by decide +kernel)) (by decide +kernel), ini_X7, (by decide +kernel), (by decide +kernel), (by decide +kernel)⟩, fw_mem (List.mem_of_getElem? (i := 559) (by decide +kernel)) (by decide +kernel), fw_mem (List.mem_of_getElem? (i := 560) (by decide +kernel)) (by decide +kernel), by decide, ⟨_, rfl, rfl⟩⟩
abbrev kX7_highestValue : fw_M := (yX7_highestValue, cX7_highestValue, 1, (some .int), 0, 0)
theorem o_X7_highestValue : fw_ks kX7_highestValue 1 := ⟨⟨fw_mem (List.mem_of_getElem? (i := 427) (by decide +kernel)) (by decide +kernel), ini_X7, (by decide +kernel), (by decide +kernel), (by decide +kernel)⟩, fw_mem (List.mem_of_getElem? (i := 426) (by decide +kernel)) (by decide +kernel)⟩
abbrev kX7_init : fw_M := (yX7_init, cX7_init, 1, none, 5, 95)
theorem o_X7_init : fw_ki kX7_init 0 := ⟨⟨fw_mem (List.mem_of_getElem? (i := 14) (by decide +kernel)) (by decide +kernel), ini_X7, (by decide +kernel), (by decide +kernel), (by decide +kernel)⟩, fw_mem (List.mem_of_getElem? (i := 13) (by decide +kernel)) (by decide +kernel), rfl⟩
abbrev kX7_isDraw : fw_M := (yX7_isDraw, cX7_isDraw, 1, (some .boolean), 0, 0)
theorem o_X7_isDraw : fw_ks kX7_isDraw 1 := ⟨⟨fw_mem (List.mem_of_getElem? (i := 374) (by decide +kernel)) (by decide +kernel), ini_X7, (by decide +kernel), (by decide +kernel), (by decide +kernel)⟩, fw_mem (List.mem_of_getElem? (i := 373) (by decide +kernel)) (by decide +kernel)⟩
abbrev kX7_isSnakeForm : fw_M := (yX7_isSnakeForm, cX7_isSnakeForm, 2, (some .boolean), 0, 0)
theorem o_X7_isSnakeForm : fw_ks kX7_isSnakeForm 2 := ⟨⟨fw_mem (List.mem_of_getElem? (i := 232) (by decide +kernel)) (by decide +kernel), ini_X7, (by decide +kernel), (by decide +kernel), (by decide +kernel)⟩, fw_mem (List.mem_of_getElem? (i := 231) (by decide +kernel)) (by decide +kernel)⟩
abbrev kX7_leastValue : fw_M := (yX7_leastValue, cX7_leastValue, 1, (some .int), 0, 0)
theorem o_X7_leastValue : fw_ks kX7_leastValue 1 := ⟨⟨fw_mem (List.mem_of_getElem? (i := 424) (by decide +kernel)) (by decide +kernel), ini_X7, (by decide +kernel), (by decide +kernel), (by decide +kernel)⟩, fw_mem (List.mem_of_getElem? (i := 423) (by decide +kernel)) (by decide +kernel)⟩
abbrev kX7_throwOf : fw_M := (yX7_throwOf, cX7_throwOf, 1, (some .int), 0, 0)
theorem o_X7_throwOf : fw_ks kX7_throwOf 1 := ⟨⟨fw_mem (List.mem_of_getElem? (i := 382) (by decide +kernel)) (by decide +kernel), ini_X7, (by decide +kernel), (by decide +kernel), (by decide +kernel)⟩, fw_mem (List.mem_of_getElem? (i := 381) (by decide +kernel)) (by decide +kernel)⟩
abbrev kX7_nextHome : fw_M := (yX7_nextHome, cX7_nextHome, 5, (some .int), 5, 114)
theorem o_X7_nextHome : fw_kv kX7_nextHome 7 1 := ⟨⟨fw_mem (List.mem_of_getElem? (i := 600) (by decide +kernel)) (by decide +kernel), ini_X7, (by decide +kernel), (by decide +kernel), (by decide +kernel)⟩, fw_mem (List.mem_of_getElem? (i := 598) (by decide +kernel)) (by decide +kernel), fw_mem (List.mem_of_getElem? (i := 599) (by decide +kernel)) (by decide +kernel), by decide, ⟨_, rfl, rfl⟩⟩
abbrev kX7_play : fw_M := (yX7_play, cX7_play, 5, (some .int), 5, 114)
theorem o_X7_play : fw_kv kX7_play 7 2 := ⟨⟨fw_mem (List.mem_of_getElem? (i := 371) (by decide +kernel)) (by decide +kernel), ini_X7, (by decide +kernel), (by decide +kernel), (by decide +kernel)⟩, fw_mem (List.mem_of_getElem? (i := 369) (by decide +kernel)) (by decide +kernel), fw_mem (List.mem_of_getElem? (i := 370) (by decide +kernel)) (by decide +kernel), by decide, ⟨_, rfl, rfl⟩⟩
abbrev kX7_player : fw_M := (yX7_player, cX7_player, 4, (some .int), 3, 65)
theorem o_X7_player : fw_kv kX7_player 7 2 := ⟨⟨fw_mem (List.mem_of_getElem? (i := 500) (by decide +kernel)) (by decide +kernel), ini_X7, (by decide +kernel), (by decide +kernel), (by decide +kernel)⟩, fw_mem (List.mem_of_getElem? (i := 498) (by decide +kernel)) (by decide +kernel), fw_mem (List.mem_of_getElem? (i := 499) (by decide +kernel)) (by decide +kernel), by decide, ⟨_, rfl, rfl⟩⟩
abbrev kX7_progress : fw_M := (yX7_progress, cX7_progress, 3, (some .double), 3, 65)
theorem o_X7_progress : fw_kv kX7_progress 7 1 := ⟨⟨fw_mem (List.mem_of_getElem? (i := 604) (by decide +kernel)) (by decide +kernel), ini_X7, (by decide +kernel), (by decide +kernel), (by decide +kernel)⟩, fw_mem (List.mem_of_getElem? (i := 602) (by decide +kernel)) (by decide +kernel), fw_mem (List.mem_of_getElem? (i := 603) (by decide +kernel)) (by decide +kernel), by decide, ⟨_, rfl, rfl⟩⟩
abbrev kX7_restore : fw_M := (yX7_restore, cX7_restore, 1, (some .int), 4, 91)
theorem o_X7_restore : fw_kv kX7_restore 7 0 := ⟨⟨fw_mem (List.mem_of_getElem? (i := 496) (by decide +kernel)) (by decide +kernel), ini_X7, (by decide +kernel), (by decide +kernel), (by decide +kernel)⟩, fw_mem (List.mem_of_getElem? (i := 494) (by decide +kernel)) (by decide +kernel), fw_mem (List.mem_of_getElem? (i := 495) (by decide +kernel)) (by decide +kernel), by decide, ⟨_, rfl, rfl⟩⟩
abbrev kX7_run : fw_M := (yX7_run, cX7_run, 2, (some .int), 6, 155)
theorem o_X7_run : fw_kv kX7_run 7 0 := ⟨⟨fw_mem (List.mem_of_getElem? (i := 469) (by decide +kernel)) (by decide +kernel), ini_X7, (by decide +kernel), (by decide +kernel), (by decide +kernel)⟩, fw_mem (List.mem_of_getElem? (i := 467) (by decide +kernel)) (by decide +kernel), fw_mem (List.mem_of_getElem? (i := 468) (by decide +kernel)) (by decide +kernel), by decide, ⟨_, rfl, rfl⟩⟩
abbrev kX7_save : fw_M := (yX7_save, cX7_save, 1, (some .int), 3, 69)
theorem o_X7_save : fw_kv kX7_save 7 0 := ⟨⟨fw_mem (List.mem_of_getElem? (i := 491) (by decide +kernel)) (by decide +kernel), ini_X7, (by decide +kernel), (by decide +kernel), (by decide +kernel)⟩, fw_mem (List.mem_of_getElem? (i := 489) (by decide +kernel)) (by decide +kernel), fw_mem (List.mem_of_getElem? (i := 490) (by decide +kernel)) (by decide +kernel), by decide, ⟨_, rfl, rfl⟩⟩
abbrev kX7_sell : fw_M := (yX7_sell, cX7_sell, 5, (some .int), 4, 101)
theorem o_X7_sell : fw_kv kX7_sell 7 4 := ⟨⟨fw_mem (List.mem_of_getElem? (i := 386) (by decide +kernel)) (by decide +kernel), ini_X7, (by decide +kernel), (by decide +kernel), (by decide +kernel)⟩, fw_mem (List.mem_of_getElem? (i := 384) (by decide +kernel)) (by decide +kernel), fw_mem (List.mem_of_getElem? (i := 385) (by decide +kernel)) (by decide +kernel), by decide, ⟨_, rfl, rfl⟩⟩
abbrev kX7_set : fw_M := (yX7_set, cX7_set, 4, (some .int), 4, 91)
theorem o_X7_set : fw_kv kX7_set 7 2 := ⟨⟨fw_mem (List.mem_of_getElem? (i := 421) (by decide +kernel)) (by decide +kernel), ini_X7, (by decide +kernel), (by decide +kernel), (by decide +kernel)⟩, fw_mem (List.mem_of_getElem? (i := 419) (by decide +kernel)) (by decide +kernel), fw_mem (List.mem_of_getElem? (i := 420) (by decide +kernel)) (by decide +kernel), by decide, ⟨_, rfl, rfl⟩⟩
abbrev kX7_snake : fw_M := (yX7_snake, cX7_snake, 5, (some .int), 4, 91)
theorem o_X7_snake : fw_kv kX7_snake 7 2 := ⟨⟨fw_mem (List.mem_of_getElem? (i := 229) (by decide +kernel)) (by decide +kernel), ini_X7, (by decide +kernel), (by decide +kernel), (by decide +kernel)⟩, fw_mem (List.mem_of_getElem? (i := 227) (by decide +kernel)) (by decide +kernel), fw_mem (List.mem_of_getElem? (i := 228) (by decide +kernel)) (by decide +kernel), by decide, ⟨_, rfl, rfl⟩⟩
abbrev kX7_snakeOf : fw_M := (yX7_snakeOf, cX7_snakeOf, 4, (some .int), 2, 43)
theorem o_X7_snakeOf : fw_kv kX7_snakeOf 7 2 := ⟨⟨fw_mem (List.mem_of_getElem? (i := 512) (by decide +kernel)) (by decide +kernel), ini_X7, (by decide +kernel), (by decide +kernel), (by decide +kernel)⟩, fw_mem (List.mem_of_getElem? (i := 510) (by decide +kernel)) (by decide +kernel), fw_mem (List.mem_of_getElem? (i := 511) (by decide +kernel)) (by decide +kernel), by decide, ⟨_, rfl, rfl⟩⟩
abbrev kX7_square : fw_M := (yX7_square, cX7_square, 3, (some .int), 3, 67)
theorem o_X7_square : fw_kv kX7_square 7 2 := ⟨⟨fw_mem (List.mem_of_getElem? (i := 516) (by decide +kernel)) (by decide +kernel), ini_X7, (by decide +kernel), (by decide +kernel), (by decide +kernel)⟩, fw_mem (List.mem_of_getElem? (i := 514) (by decide +kernel)) (by decide +kernel), fw_mem (List.mem_of_getElem? (i := 515) (by decide +kernel)) (by decide +kernel), by decide, ⟨_, rfl, rfl⟩⟩
abbrev kX7_turn : fw_M := (yX7_turn, cX7_turn, 2, (some .int), 5, 114)
theorem o_X7_turn : fw_kv kX7_turn 7 1 := ⟨⟨fw_mem (List.mem_of_getElem? (i := 307) (by decide +kernel)) (by decide +kernel), ini_X7, (by decide +kernel), (by decide +kernel), (by decide +kernel)⟩, fw_mem (List.mem_of_getElem? (i := 305) (by decide +kernel)) (by decide +kernel), fw_mem (List.mem_of_getElem? (i := 306) (by decide +kernel)) (by decide +kernel), by decide, ⟨_, rfl, rfl⟩⟩
abbrev kX7_undo : fw_M := (yX7_undo, cX7_undo, 1, (some .int), 4, 91)
theorem o_X7_undo : fw_kv kX7_undo 7 0 := ⟨⟨fw_mem (List.mem_of_getElem? (i := 483) (by decide +kernel)) (by decide +kernel), ini_X7, (by decide +kernel), (by decide +kernel), (by decide +kernel)⟩, fw_mem (List.mem_of_getElem? (i := 481) (by decide +kernel)) (by decide +kernel), fw_mem (List.mem_of_getElem? (i := 482) (by decide +kernel)) (by decide +kernel), by decide, ⟨_, rfl, rfl⟩⟩
abbrev kX7_why : fw_M := (yX7_why, cX7_why, 5, (some .int), 3, 72)
theorem o_X7_why : fw_kv kX7_why 7 4 := ⟨⟨fw_mem (List.mem_of_getElem? (i := 545) (by decide +kernel)) (by decide +kernel), ini_X7, (by decide +kernel), (by decide +kernel), (by decide +kernel)⟩, fw_mem (List.mem_of_getElem? (i := 543) (by decide +kernel)) (by decide +kernel), fw_mem (List.mem_of_getElem? (i := 544) (by decide +kernel)) (by decide +kernel), by decide, ⟨_, rfl, rfl⟩⟩
abbrev kX8_add : fw_M := (yX8_add, cX8_add, 4, none, 0, 0)
theorem o_X8_add : fw_kv kX8_add 8 3 := ⟨⟨fw_mem (List.mem_of_getElem? (i := 724) (by decide +kernel)) (by decide +kernel), ini_X8, (by decide +kernel), (by decide +kernel), (by decide +kernel)⟩, fw_mem (List.mem_of_getElem? (i := 723) (by decide +kernel)) (by decide +kernel), fw_memS (q := (yX8_add, 14)) (List.mem_of_getElem? (i := 23) (by decide +kernel)) (by decide +kernel), by decide, ⟨_, rfl, rfl⟩⟩
abbrev kX8_in : fw_M := (yX8_in, cX8_in, 3, (some .boolean), 0, 0)
theorem o_X8_in : fw_ks kX8_in 3 := ⟨⟨fw_mem (List.mem_of_getElem? (i := 662) (by decide +kernel)) (by decide +kernel), ini_X8, (by decide +kernel), (by decide +kernel), (by decide +kernel)⟩, fw_mem (List.mem_of_getElem? (i := 661) (by decide +kernel)) (by decide +kernel)⟩
abbrev kX8_append : fw_M := (yX8_append, cX8_append, 2, (some .int), 1, 22)
theorem o_X8_append : fw_kv kX8_append 8 1 := ⟨⟨fw_mem (List.mem_of_getElem? (i := 794) (by decide +kernel)) (by decide +kernel), ini_X8, (by decide +kernel), (by decide +kernel), (by decide +kernel)⟩, fw_mem (List.mem_of_getElem? (i := 792) (by decide +kernel)) (by decide +kernel), fw_mem (List.mem_of_getElem? (i := 793) (by decide +kernel)) (by decide +kernel), by decide, ⟨_, rfl, rfl⟩⟩
abbrev kX8_of : fw_M := (yX8_of, cX8_of, 3, (some .int), 0, 0)
theorem o_X8_of : fw_kv kX8_of 8 2 := ⟨⟨fw_mem (List.mem_of_getElem? (i := 713) (by decide +kernel)) (by decide +kernel), ini_X8, (by decide +kernel), (by decide +kernel), (by decide +kernel)⟩, fw_mem (List.mem_of_getElem? (i := 712) (by decide +kernel)) (by decide +kernel), fw_memS (q := (yX8_of, 14)) (List.mem_of_getElem? (i := 21) (by decide +kernel)) (by decide +kernel), by decide, ⟨_, rfl, rfl⟩⟩
abbrev kX8_asks : fw_M := (yX8_asks, cX8_asks, 3, (some .int), 1, 22)
theorem o_X8_asks : fw_kv kX8_asks 8 2 := ⟨⟨fw_mem (List.mem_of_getElem? (i := 782) (by decide +kernel)) (by decide +kernel), ini_X8, (by decide +kernel), (by decide +kernel), (by decide +kernel)⟩, fw_mem (List.mem_of_getElem? (i := 781) (by decide +kernel)) (by decide +kernel), fw_memS (q := (yX8_asks, 14)) (List.mem_of_getElem? (i := 32) (by decide +kernel)) (by decide +kernel), by decide, ⟨_, rfl, rfl⟩⟩
abbrev kX8_whereIs : fw_M := (yX8_whereIs, cX8_whereIs, 2, (some .int), 0, 0)
theorem o_X8_whereIs : fw_ks kX8_whereIs 2 := ⟨⟨fw_mem (List.mem_of_getElem? (i := 720) (by decide +kernel)) (by decide +kernel), ini_X8, (by decide +kernel), (by decide +kernel), (by decide +kernel)⟩, fw_mem (List.mem_of_getElem? (i := 719) (by decide +kernel)) (by decide +kernel)⟩
abbrev kX8_getBite : fw_M := (yX8_getBite, cX8_getBite, 4, none, 1, 23)
theorem o_X8_getBite : fw_kv kX8_getBite 8 2 := ⟨⟨fw_mem (List.mem_of_getElem? (i := 743) (by decide +kernel)) (by decide +kernel), ini_X8, (by decide +kernel), (by decide +kernel), (by decide +kernel)⟩, fw_mem (List.mem_of_getElem? (i := 742) (by decide +kernel)) (by decide +kernel), fw_memS (q := (yX8_getBite, 14)) (List.mem_of_getElem? (i := 27) (by decide +kernel)) (by decide +kernel), by decide, ⟨_, rfl, rfl⟩⟩
abbrev kX8_ofSnake : fw_M := (yX8_ofSnake, cX8_ofSnake, 3, (some .int), 0, 0)
theorem o_X8_ofSnake : fw_kv kX8_ofSnake 8 2 := ⟨⟨fw_mem (List.mem_of_getElem? (i := 670) (by decide +kernel)) (by decide +kernel), ini_X8, (by decide +kernel), (by decide +kernel), (by decide +kernel)⟩, fw_mem (List.mem_of_getElem? (i := 669) (by decide +kernel)) (by decide +kernel), fw_memS (q := (yX8_ofSnake, 14)) (List.mem_of_getElem? (i := 13) (by decide +kernel)) (by decide +kernel), by decide, ⟨_, rfl, rfl⟩⟩
abbrev kX8_snakeAt : fw_M := (yX8_snakeAt, cX8_snakeAt, 4, (some .int), 1, 22)
theorem o_X8_snakeAt : fw_kv kX8_snakeAt 8 1 := ⟨⟨fw_mem (List.mem_of_getElem? (i := 666) (by decide +kernel)) (by decide +kernel), ini_X8, (by decide +kernel), (by decide +kernel), (by decide +kernel)⟩, fw_mem (List.mem_of_getElem? (i := 665) (by decide +kernel)) (by decide +kernel), fw_memS (q := (yX8_snakeAt, 14)) (List.mem_of_getElem? (i := 12) (by decide +kernel)) (by decide +kernel), by decide, ⟨_, rfl, rfl⟩⟩
abbrev kX8_beBitten : fw_M := (yX8_beBitten, cX8_beBitten, 4, none, 2, 46)
theorem o_X8_beBitten : fw_kv kX8_beBitten 8 2 := ⟨⟨fw_mem (List.mem_of_getElem? (i := 739) (by decide +kernel)) (by decide +kernel), ini_X8, (by decide +kernel), (by decide +kernel), (by decide +kernel)⟩, fw_mem (List.mem_of_getElem? (i := 738) (by decide +kernel)) (by decide +kernel), fw_memS (q := (yX8_beBitten, 14)) (List.mem_of_getElem? (i := 26) (by decide +kernel)) (by decide +kernel), by decide, ⟨_, rfl, rfl⟩⟩
abbrev kX8_hurts : fw_M := (yX8_hurts, cX8_hurts, 4, (some .int), 1, 22)
theorem o_X8_hurts : fw_kv kX8_hurts 8 1 := ⟨⟨fw_mem (List.mem_of_getElem? (i := 717) (by decide +kernel)) (by decide +kernel), ini_X8, (by decide +kernel), (by decide +kernel), (by decide +kernel)⟩, fw_mem (List.mem_of_getElem? (i := 716) (by decide +kernel)) (by decide +kernel), fw_memS (q := (yX8_hurts, 14)) (List.mem_of_getElem? (i := 22) (by decide +kernel)) (by decide +kernel), by decide, ⟨_, rfl, rfl⟩⟩
abbrev kX8_beginsAt : fw_M := (yX8_beginsAt, cX8_beginsAt, 3, (some .int), 2, 45)
theorem o_X8_beginsAt : fw_kv kX8_beginsAt 8 1 := ⟨⟨fw_mem (List.mem_of_getElem? (i := 709) (by decide +kernel)) (by decide +kernel), ini_X8, (by decide +kernel), (by decide +kernel), (by decide +kernel)⟩, fw_mem (List.mem_of_getElem? (i := 708) (by decide +kernel)) (by decide +kernel), fw_memS (q := (yX8_beginsAt, 14)) (List.mem_of_getElem? (i := 20) (by decide +kernel)) (by decide +kernel), by decide, ⟨_, rfl, rfl⟩⟩
abbrev kX8_isPlayer : fw_M := (yX8_isPlayer, cX8_isPlayer, 1, (some .boolean), 1, 22)
theorem o_X8_isPlayer : fw_ks kX8_isPlayer 1 := ⟨⟨fw_mem (List.mem_of_getElem? (i := 774) (by decide +kernel)) (by decide +kernel), ini_X8, (by decide +kernel), (by decide +kernel), (by decide +kernel)⟩, fw_mem (List.mem_of_getElem? (i := 773) (by decide +kernel)) (by decide +kernel)⟩
abbrev kX8_isBite : fw_M := (yX8_isBite, cX8_isBite, 3, (some .boolean), 2, 42)
theorem o_X8_isBite : fw_kv kX8_isBite 8 2 := ⟨⟨fw_mem (List.mem_of_getElem? (i := 771) (by decide +kernel)) (by decide +kernel), ini_X8, (by decide +kernel), (by decide +kernel), (by decide +kernel)⟩, fw_mem (List.mem_of_getElem? (i := 770) (by decide +kernel)) (by decide +kernel), fw_memS (q := (yX8_isBite, 14)) (List.mem_of_getElem? (i := 30) (by decide +kernel)) (by decide +kernel), by decide, ⟨_, rfl, rfl⟩⟩
abbrev kX8_bite : fw_M := (yX8_bite, cX8_bite, 4, (some .int), 3, 64)
theorem o_X8_bite : fw_kv kX8_bite 8 3 := ⟨⟨fw_mem (List.mem_of_getElem? (i := 854) (by decide +kernel)) (by decide +kernel), ini_X8, (by decide +kernel), (by decide +kernel), (by decide +kernel)⟩, fw_mem (List.mem_of_getElem? (i := 852) (by decide +kernel)) (by decide +kernel), fw_mem (List.mem_of_getElem? (i := 853) (by decide +kernel)) (by decide +kernel), by decide, ⟨_, rfl, rfl⟩⟩
abbrev kX8_piecesAt : fw_M := (yX8_piecesAt, cX8_piecesAt, 4, (some .int), 1, 22)
theorem o_X8_piecesAt : fw_kv kX8_piecesAt 8 1 := ⟨⟨fw_mem (List.mem_of_getElem? (i := 735) (by decide +kernel)) (by decide +kernel), ini_X8, (by decide +kernel), (by decide +kernel), (by decide +kernel)⟩, fw_mem (List.mem_of_getElem? (i := 734) (by decide +kernel)) (by decide +kernel), fw_memS (q := (yX8_piecesAt, 14)) (List.mem_of_getElem? (i := 25) (by decide +kernel)) (by decide +kernel), by decide, ⟨_, rfl, rfl⟩⟩
abbrev kX8_bites : fw_M := (yX8_bites, cX8_bites, 4, (some .boolean), 2, 45)
theorem o_X8_bites : fw_kv kX8_bites 8 2 := ⟨⟨fw_mem (List.mem_of_getElem? (i := 731) (by decide +kernel)) (by decide +kernel), ini_X8, (by decide +kernel), (by decide +kernel), (by decide +kernel)⟩, fw_mem (List.mem_of_getElem? (i := 730) (by decide +kernel)) (by decide +kernel), fw_memS (q := (yX8_bites, 14)) (List.mem_of_getElem? (i := 24) (by decide +kernel)) (by decide +kernel), by decide, ⟨_, rfl, rfl⟩⟩
abbrev kX8_isSnake : fw_M := (yX8_isSnake, cX8_isSnake, 2, (some .boolean), 1, 22)
theorem o_X8_isSnake : fw_kv kX8_isSnake 8 1 := ⟨⟨fw_mem (List.mem_of_getElem? (i := 685) (by decide +kernel)) (by decide +kernel), ini_X8, (by decide +kernel), (by decide +kernel), (by decide +kernel)⟩, fw_mem (List.mem_of_getElem? (i := 684) (by decide +kernel)) (by decide +kernel), fw_memS (q := (yX8_isSnake, 14)) (List.mem_of_getElem? (i := 16) (by decide +kernel)) (by decide +kernel), by decide, ⟨_, rfl, rfl⟩⟩
abbrev kX8_copy : fw_M := (yX8_copy, cX8_copy, 5, none, 0, 0)
theorem o_X8_copy : fw_ks kX8_copy 4 := ⟨⟨fw_mem (List.mem_of_getElem? (i := 681) (by decide +kernel)) (by decide +kernel), ini_X8, (by decide +kernel), (by decide +kernel), (by decide +kernel)⟩, fw_mem (List.mem_of_getElem? (i := 680) (by decide +kernel)) (by decide +kernel)⟩
abbrev kX8_record : fw_M := (yX8_record, cX8_record, 2, none, 1, 24)
theorem o_X8_record : fw_kv kX8_record 8 0 := ⟨⟨fw_mem (List.mem_of_getElem? (i := 678) (by decide +kernel)) (by decide +kernel), ini_X8, (by decide +kernel), (by decide +kernel), (by decide +kernel)⟩, fw_mem (List.mem_of_getElem? (i := 677) (by decide +kernel)) (by decide +kernel), fw_memS (q := (yX8_record, 14)) (List.mem_of_getElem? (i := 15) (by decide +kernel)) (by decide +kernel), by decide, ⟨_, rfl, rfl⟩⟩
abbrev kX8_charm : fw_M := (yX8_charm, cX8_charm, 5, (some .int), 2, 45)
theorem o_X8_charm : fw_kv kX8_charm 8 2 := ⟨⟨fw_mem (List.mem_of_getElem? (i := 689) (by decide +kernel)) (by decide +kernel), ini_X8, (by decide +kernel), (by decide +kernel), (by decide +kernel)⟩, fw_mem (List.mem_of_getElem? (i := 687) (by decide +kernel)) (by decide +kernel), fw_mem (List.mem_of_getElem? (i := 688) (by decide +kernel)) (by decide +kernel), by decide, ⟨_, rfl, rfl⟩⟩
abbrev kX8_isIn : fw_M := (yX8_isIn, cX8_isIn, 2, (some .boolean), 1, 22)
theorem o_X8_isIn : fw_kv kX8_isIn 8 1 := ⟨⟨fw_mem (List.mem_of_getElem? (i := 747) (by decide +kernel)) (by decide +kernel), ini_X8, (by decide +kernel), (by decide +kernel), (by decide +kernel)⟩, fw_mem (List.mem_of_getElem? (i := 746) (by decide +kernel)) (by decide +kernel), fw_memS (q := (yX8_isIn, 14)) (List.mem_of_getElem? (i := 28) (by decide +kernel)) (by decide +kernel), by decide, ⟨_, rfl, rfl⟩⟩
abbrev kX8_reason : fw_M := (yX8_reason, cX8_reason, 6, (some .int), 2, 44)
theorem o_X8_reason : fw_kv kX8_reason 8 4 := ⟨⟨fw_mem (List.mem_of_getElem? (i := 778) (by decide +kernel)) (by decide +kernel), ini_X8, (by decide +kernel), (by decide +kernel), (by decide +kernel)⟩, fw_mem (List.mem_of_getElem? (i := 777) (by decide +kernel)) (by decide +kernel), fw_memS (q := (yX8_reason, 14)) (List.mem_of_getElem? (i := 31) (by decide +kernel)) (by decide +kernel), by decide, ⟨_, rfl, rfl⟩⟩
abbrev kX8_cheapest : fw_M := (yX8_cheapest, cX8_cheapest, 7, (some .int), 3, 69)
theorem o_X8_cheapest : fw_kv kX8_cheapest 8 2 := ⟨⟨fw_mem (List.mem_of_getElem? (i := 882) (by decide +kernel)) (by decide +kernel), ini_X8, (by decide +kernel), (by decide +kernel), (by decide +kernel)⟩, fw_mem (List.mem_of_getElem? (i := 880) (by decide +kernel)) (by decide +kernel), fw_mem (List.mem_of_getElem? (i := 881) (by decide +kernel)) (by decide +kernel), by decide, ⟨_, rfl, rfl⟩⟩
abbrev kX8_clearText : fw_M := (yX8_clearText, cX8_clearText, 2, (some .int), 0, 0)
theorem o_X8_clearText : fw_kv kX8_clearText 8 0 := ⟨⟨fw_mem (List.mem_of_getElem? (i := 798) (by decide +kernel)) (by decide +kernel), ini_X8, (by decide +kernel), (by decide +kernel), (by decide +kernel)⟩, fw_mem (List.mem_of_getElem? (i := 796) (by decide +kernel)) (by decide +kernel), fw_mem (List.mem_of_getElem? (i := 797) (by decide +kernel)) (by decide +kernel), by decide, ⟨_, rfl, rfl⟩⟩
abbrev kX8_isOver : fw_M := (yX8_isOver, cX8_isOver, 1, (some .boolean), 0, 0)
theorem o_X8_isOver : fw_kv kX8_isOver 8 0 := ⟨⟨fw_mem (List.mem_of_getElem? (i := 701) (by decide +kernel)) (by decide +kernel), ini_X8, (by decide +kernel), (by decide +kernel), (by decide +kernel)⟩, fw_mem (List.mem_of_getElem? (i := 700) (by decide +kernel)) (by decide +kernel), fw_memS (q := (yX8_isOver, 14)) (List.mem_of_getElem? (i := 18) (by decide +kernel)) (by decide +kernel), by decide, ⟨_, rfl, rfl⟩⟩
abbrev kX8_snakes : fw_M := (yX8_snakes, cX8_snakes, 3, (some .int), 1, 22)
theorem o_X8_snakes : fw_kv kX8_snakes 8 0 := ⟨⟨fw_mem (List.mem_of_getElem? (i := 674) (by decide +kernel)) (by decide +kernel), ini_X8, (by decide +kernel), (by decide +kernel), (by decide +kernel)⟩, fw_mem (List.mem_of_getElem? (i := 673) (by decide +kernel)) (by decide +kernel), fw_memS (q := (yX8_snakes, 14)) (List.mem_of_getElem? (i := 14) (by decide +kernel)) (by decide +kernel), by decide, ⟨_, rfl, rfl⟩⟩
abbrev kX8_sumOf : fw_M := (yX8_sumOf, cX8_sumOf, 4, (some .int), 1, 22)
theorem o_X8_sumOf : fw_kv kX8_sumOf 8 1 := ⟨⟨fw_mem (List.mem_of_getElem? (i := 874) (by decide +kernel)) (by decide +kernel), ini_X8, (by decide +kernel), (by decide +kernel), (by decide +kernel)⟩, fw_mem (List.mem_of_getElem? (i := 873) (by decide +kernel)) (by decide +kernel), fw_memS (q := (yX8_sumOf, 14)) (List.mem_of_getElem? (i := 42) (by decide +kernel)) (by decide +kernel), by decide, ⟨_, rfl, rfl⟩⟩
abbrev kX8_count : fw_M := (yX8_count, cX8_count, 2, (some .int), 2, 45)
theorem o_X8_count : fw_kv kX8_count 8 1 := ⟨⟨fw_mem (List.mem_of_getElem? (i := 870) (by decide +kernel)) (by decide +kernel), ini_X8, (by decide +kernel), (by decide +kernel), (by decide +kernel)⟩, fw_mem (List.mem_of_getElem? (i := 868) (by decide +kernel)) (by decide +kernel), fw_mem (List.mem_of_getElem? (i := 869) (by decide +kernel)) (by decide +kernel), by decide, ⟨_, rfl, rfl⟩⟩
abbrev kX8_goOn : fw_M := (yX8_goOn, cX8_goOn, 2, (some .int), 0, 0)
theorem o_X8_goOn : fw_ks kX8_goOn 2 := ⟨⟨fw_mem (List.mem_of_getElem? (i := 727) (by decide +kernel)) (by decide +kernel), ini_X8, (by decide +kernel), (by decide +kernel), (by decide +kernel)⟩, fw_mem (List.mem_of_getElem? (i := 726) (by decide +kernel)) (by decide +kernel)⟩
abbrev kX8_dangers : fw_M := (yX8_dangers, cX8_dangers, 4, (some .int), 3, 68)
theorem o_X8_dangers : fw_kv kX8_dangers 8 1 := ⟨⟨fw_mem (List.mem_of_getElem? (i := 886) (by decide +kernel)) (by decide +kernel), ini_X8, (by decide +kernel), (by decide +kernel), (by decide +kernel)⟩, fw_mem (List.mem_of_getElem? (i := 884) (by decide +kernel)) (by decide +kernel), fw_mem (List.mem_of_getElem? (i := 885) (by decide +kernel)) (by decide +kernel), by decide, ⟨_, rfl, rfl⟩⟩
abbrev kX8_diceOf : fw_M := (yX8_diceOf, cX8_diceOf, 1, (some .int), 0, 0)
theorem o_X8_diceOf : fw_ks kX8_diceOf 1 := ⟨⟨fw_mem (List.mem_of_getElem? (i := 759) (by decide +kernel)) (by decide +kernel), ini_X8, (by decide +kernel), (by decide +kernel), (by decide +kernel)⟩, fw_mem (List.mem_of_getElem? (i := 758) (by decide +kernel)) (by decide +kernel)⟩
abbrev kX8_doSell : fw_M := (yX8_doSell, cX8_doSell, 8, (some .int), 1, 23)
theorem o_X8_doSell : fw_kv kX8_doSell 8 4 := ⟨⟨fw_mem (List.mem_of_getElem? (i := 786) (by decide +kernel)) (by decide +kernel), ini_X8, (by decide +kernel), (by decide +kernel), (by decide +kernel)⟩, fw_mem (List.mem_of_getElem? (i := 785) (by decide +kernel)) (by decide +kernel), fw_memS (q := (yX8_doSell, 14)) (List.mem_of_getElem? (i := 33) (by decide +kernel)) (by decide +kernel), by decide, ⟨_, rfl, rfl⟩⟩
abbrev kX8_doTurn : fw_M := (yX8_doTurn, cX8_doTurn, 6, (some .int), 3, 69)
theorem o_X8_doTurn : fw_kv kX8_doTurn 8 1 := ⟨⟨fw_mem (List.mem_of_getElem? (i := 705) (by decide +kernel)) (by decide +kernel), ini_X8, (by decide +kernel), (by decide +kernel), (by decide +kernel)⟩, fw_mem (List.mem_of_getElem? (i := 704) (by decide +kernel)) (by decide +kernel), fw_memS (q := (yX8_doTurn, 14)) (List.mem_of_getElem? (i := 19) (by decide +kernel)) (by decide +kernel), by decide, ⟨_, rfl, rfl⟩⟩
abbrev kX8_sellError : fw_M := (yX8_sellError, cX8_sellError, 5, (some .int), 3, 64)
theorem o_X8_sellError : fw_kv kX8_sellError 8 4 := ⟨⟨fw_mem (List.mem_of_getElem? (i := 767) (by decide +kernel)) (by decide +kernel), ini_X8, (by decide +kernel), (by decide +kernel), (by decide +kernel)⟩, fw_mem (List.mem_of_getElem? (i := 766) (by decide +kernel)) (by decide +kernel), fw_memS (q := (yX8_sellError, 14)) (List.mem_of_getElem? (i := 29) (by decide +kernel)) (by decide +kernel), by decide, ⟨_, rfl, rfl⟩⟩
abbrev kX8_turnError : fw_M := (yX8_turnError, cX8_turnError, 2, (some .int), 1, 22)
theorem o_X8_turnError : fw_kv kX8_turnError 8 1 := ⟨⟨fw_mem (List.mem_of_getElem? (i := 697) (by decide +kernel)) (by decide +kernel), ini_X8, (by decide +kernel), (by decide +kernel), (by decide +kernel)⟩, fw_mem (List.mem_of_getElem? (i := 696) (by decide +kernel)) (by decide +kernel), fw_memS (q := (yX8_turnError, 14)) (List.mem_of_getElem? (i := 17) (by decide +kernel)) (by decide +kernel), by decide, ⟨_, rfl, rfl⟩⟩
abbrev kX8_does : fw_M := (yX8_does, cX8_does, 2, (some .boolean), 4, 94)
theorem o_X8_does : fw_kv kX8_does 8 0 := ⟨⟨fw_mem (List.mem_of_getElem? (i := 830) (by decide +kernel)) (by decide +kernel), ini_X8, (by decide +kernel), (by decide +kernel), (by decide +kernel)⟩, fw_mem (List.mem_of_getElem? (i := 829) (by decide +kernel)) (by decide +kernel), fw_memS (q := (yX8_does, 14)) (List.mem_of_getElem? (i := 40) (by decide +kernel)) (by decide +kernel), by decide, ⟨_, rfl, rfl⟩⟩
abbrev kX8_draw : fw_M := (yX8_draw, cX8_draw, 1, (some .int), 0, 0)
theorem o_X8_draw : fw_ks kX8_draw 1 := ⟨⟨fw_mem (List.mem_of_getElem? (i := 755) (by decide +kernel)) (by decide +kernel), ini_X8, (by decide +kernel), (by decide +kernel), (by decide +kernel)⟩, fw_mem (List.mem_of_getElem? (i := 754) (by decide +kernel)) (by decide +kernel)⟩
abbrev kX8_isNext : fw_M := (yX8_isNext, cX8_isNext, 3, (some .boolean), 1, 22)
theorem o_X8_isNext : fw_kv kX8_isNext 8 2 := ⟨⟨fw_mem (List.mem_of_getElem? (i := 814) (by decide +kernel)) (by decide +kernel), ini_X8, (by decide +kernel), (by decide +kernel), (by decide +kernel)⟩, fw_mem (List.mem_of_getElem? (i := 813) (by decide +kernel)) (by decide +kernel), fw_memS (q := (yX8_isNext, 14)) (List.mem_of_getElem? (i := 36) (by decide +kernel)) (by decide +kernel), by decide, ⟨_, rfl, rfl⟩⟩
abbrev kX8_take : fw_M := (yX8_take, cX8_take, 5, (some .boolean), 2, 44)
theorem o_X8_take : fw_kv kX8_take 8 3 := ⟨⟨fw_mem (List.mem_of_getElem? (i := 822) (by decide +kernel)) (by decide +kernel), ini_X8, (by decide +kernel), (by decide +kernel), (by decide +kernel)⟩, fw_mem (List.mem_of_getElem? (i := 821) (by decide +kernel)) (by decide +kernel), fw_memS (q := (yX8_take, 14)) (List.mem_of_getElem? (i := 38) (by decide +kernel)) (by decide +kernel), by decide, ⟨_, rfl, rfl⟩⟩
abbrev kX8_readCoins : fw_M := (yX8_readCoins, cX8_readCoins, 1, (some .boolean), 3, 68)
theorem o_X8_readCoins : fw_kv kX8_readCoins 8 0 := ⟨⟨fw_mem (List.mem_of_getElem? (i := 826) (by decide +kernel)) (by decide +kernel), ini_X8, (by decide +kernel), (by decide +kernel), (by decide +kernel)⟩, fw_mem (List.mem_of_getElem? (i := 825) (by decide +kernel)) (by decide +kernel), fw_memS (q := (yX8_readCoins, 14)) (List.mem_of_getElem? (i := 39) (by decide +kernel)) (by decide +kernel), by decide, ⟨_, rfl, rfl⟩⟩
abbrev kX8_takes : fw_M := (yX8_takes, cX8_takes, 3, (some .boolean), 2, 44)
theorem o_X8_takes : fw_kv kX8_takes 8 1 := ⟨⟨fw_mem (List.mem_of_getElem? (i := 818) (by decide +kernel)) (by decide +kernel), ini_X8, (by decide +kernel), (by decide +kernel), (by decide +kernel)⟩, fw_mem (List.mem_of_getElem? (i := 817) (by decide +kernel)) (by decide +kernel), fw_memS (q := (yX8_takes, 14)) (List.mem_of_getElem? (i := 37) (by decide +kernel)) (by decide +kernel), by decide, ⟨_, rfl, rfl⟩⟩
abbrev kX8_readOrder : fw_M := (yX8_readOrder, cX8_readOrder, 1, (some .boolean), 4, 88)
theorem o_X8_readOrder : fw_kv kX8_readOrder 8 0 := ⟨⟨fw_mem (List.mem_of_getElem? (i := 810) (by decide +kernel)) (by decide +kernel), ini_X8, (by decide +kernel), (by decide +kernel), (by decide +kernel)⟩, fw_mem (List.mem_of_getElem? (i := 809) (by decide +kernel)) (by decide +kernel), fw_memS (q := (yX8_readOrder, 14)) (List.mem_of_getElem? (i := 35) (by decide +kernel)) (by decide +kernel), by decide, ⟨_, rfl, rfl⟩⟩
abbrev kX8_readText : fw_M := (yX8_readText, cX8_readText, 3, (some .boolean), 5, 115)
theorem o_X8_readText : fw_kv kX8_readText 8 1 := ⟨⟨fw_mem (List.mem_of_getElem? (i := 806) (by decide +kernel)) (by decide +kernel), ini_X8, (by decide +kernel), (by decide +kernel), (by decide +kernel)⟩, fw_mem (List.mem_of_getElem? (i := 805) (by decide +kernel)) (by decide +kernel), fw_memS (q := (yX8_readText, 14)) (List.mem_of_getElem? (i := 34) (by decide +kernel)) (by decide +kernel), by decide, ⟨_, rfl, rfl⟩⟩
abbrev kX8_fault : fw_M := (yX8_fault, cX8_fault, 1, (some .int), 6, 137)
theorem o_X8_fault : fw_kv kX8_fault 8 0 := ⟨⟨fw_mem (List.mem_of_getElem? (i := 802) (by decide +kernel)) (by decide +kernel), ini_X8, (by decide +kernel), (by decide +kernel), (by decide +kernel)⟩, fw_mem (List.mem_of_getElem? (i := 800) (by decide +kernel)) (by decide +kernel), fw_mem (List.mem_of_getElem? (i := 801) (by decide +kernel)) (by decide +kernel), by decide, ⟨_, rfl, rfl⟩⟩
abbrev kX8_throwsHome : fw_M := (yX8_throwsHome, cX8_throwsHome, 6, (some .boolean), 2, 45)
theorem o_X8_throwsHome : fw_kv kX8_throwsHome 8 0 := ⟨⟨fw_mem (List.mem_of_getElem? (i := 894) (by decide +kernel)) (by decide +kernel), ini_X8, (by decide +kernel), (by decide +kernel), (by decide +kernel)⟩, fw_mem (List.mem_of_getElem? (i := 893) (by decide +kernel)) (by decide +kernel), fw_memS (q := (yX8_throwsHome, 14)) (List.mem_of_getElem? (i := 43) (by decide +kernel)) (by decide +kernel), by decide, ⟨_, rfl, rfl⟩⟩
abbrev kX8_fewest : fw_M := (yX8_fewest, cX8_fewest, 4, (some .int), 3, 70)
theorem o_X8_fewest : fw_kv kX8_fewest 8 2 := ⟨⟨fw_mem (List.mem_of_getElem? (i := 890) (by decide +kernel)) (by decide +kernel), ini_X8, (by decide +kernel), (by decide +kernel), (by decide +kernel)⟩, fw_mem (List.mem_of_getElem? (i := 888) (by decide +kernel)) (by decide +kernel), fw_mem (List.mem_of_getElem? (i := 889) (by decide +kernel)) (by decide +kernel), by decide, ⟨_, rfl, rfl⟩⟩
abbrev kX8_init : fw_M := (yX8_init, cX8_init, 2, none, 1, 12)
theorem o_X8_init : fw_ki kX8_init 0 := ⟨⟨fw_mem (List.mem_of_getElem? (i := 610) (by decide +kernel)) (by decide +kernel), ini_X8, (by decide +kernel), (by decide +kernel), (by decide +kernel)⟩, fw_mem (List.mem_of_getElem? (i := 609) (by decide +kernel)) (by decide +kernel), rfl⟩
abbrev kX8_nextHome : fw_M := (yX8_nextHome, cX8_nextHome, 6, (some .int), 4, 94)
theorem o_X8_nextHome : fw_kv kX8_nextHome 8 1 := ⟨⟨fw_mem (List.mem_of_getElem? (i := 898) (by decide +kernel)) (by decide +kernel), ini_X8, (by decide +kernel), (by decide +kernel), (by decide +kernel)⟩, fw_mem (List.mem_of_getElem? (i := 896) (by decide +kernel)) (by decide +kernel), fw_mem (List.mem_of_getElem? (i := 897) (by decide +kernel)) (by decide +kernel), by decide, ⟨_, rfl, rfl⟩⟩
abbrev kX8_play : fw_M := (yX8_play, cX8_play, 5, (some .int), 4, 94)
theorem o_X8_play : fw_kv kX8_play 8 2 := ⟨⟨fw_mem (List.mem_of_getElem? (i := 751) (by decide +kernel)) (by decide +kernel), ini_X8, (by decide +kernel), (by decide +kernel), (by decide +kernel)⟩, fw_mem (List.mem_of_getElem? (i := 749) (by decide +kernel)) (by decide +kernel), fw_mem (List.mem_of_getElem? (i := 750) (by decide +kernel)) (by decide +kernel), by decide, ⟨_, rfl, rfl⟩⟩
abbrev kX8_player : fw_M := (yX8_player, cX8_player, 3, (some .int), 3, 67)
theorem o_X8_player : fw_kv kX8_player 8 2 := ⟨⟨fw_mem (List.mem_of_getElem? (i := 850) (by decide +kernel)) (by decide +kernel), ini_X8, (by decide +kernel), (by decide +kernel), (by decide +kernel)⟩, fw_mem (List.mem_of_getElem? (i := 848) (by decide +kernel)) (by decide +kernel), fw_mem (List.mem_of_getElem? (i := 849) (by decide +kernel)) (by decide +kernel), by decide, ⟨_, rfl, rfl⟩⟩
abbrev kX8_progress : fw_M := (yX8_progress, cX8_progress, 2, (some .double), 3, 67)
theorem o_X8_progress : fw_kv kX8_progress 8 1 := ⟨⟨fw_mem (List.mem_of_getElem? (i := 902) (by decide +kernel)) (by decide +kernel), ini_X8, (by decide +kernel), (by decide +kernel), (by decide +kernel)⟩, fw_mem (List.mem_of_getElem? (i := 900) (by decide +kernel)) (by decide +kernel), fw_mem (List.mem_of_getElem? (i := 901) (by decide +kernel)) (by decide +kernel), by decide, ⟨_, rfl, rfl⟩⟩
abbrev kX8_restore : fw_M := (yX8_restore, cX8_restore, 1, (some .int), 2, 45)
theorem o_X8_restore : fw_kv kX8_restore 8 0 := ⟨⟨fw_mem (List.mem_of_getElem? (i := 846) (by decide +kernel)) (by decide +kernel), ini_X8, (by decide +kernel), (by decide +kernel), (by decide +kernel)⟩, fw_mem (List.mem_of_getElem? (i := 844) (by decide +kernel)) (by decide +kernel), fw_mem (List.mem_of_getElem? (i := 845) (by decide +kernel)) (by decide +kernel), by decide, ⟨_, rfl, rfl⟩⟩
abbrev kX8_run : fw_M := (yX8_run, cX8_run, 1, (some .int), 6, 137)
theorem o_X8_run : fw_kv kX8_run 8 0 := ⟨⟨fw_mem (List.mem_of_getElem? (i := 834) (by decide +kernel)) (by decide +kernel), ini_X8, (by decide +kernel), (by decide +kernel), (by decide +kernel)⟩, fw_mem (List.mem_of_getElem? (i := 832) (by decide +kernel)) (by decide +kernel), fw_mem (List.mem_of_getElem? (i := 833) (by decide +kernel)) (by decide +kernel), by decide, ⟨_, rfl, rfl⟩⟩
abbrev kX8_save : fw_M := (yX8_save, cX8_save, 1, (some .int), 1, 24)
theorem o_X8_save : fw_kv kX8_save 8 0 := ⟨⟨fw_mem (List.mem_of_getElem? (i := 842) (by decide +kernel)) (by decide +kernel), ini_X8, (by decide +kernel), (by decide +kernel), (by decide +kernel)⟩, fw_mem (List.mem_of_getElem? (i := 840) (by decide +kernel)) (by decide +kernel), fw_mem (List.mem_of_getElem? (i := 841) (by decide +kernel)) (by decide +kernel), by decide, ⟨_, rfl, rfl⟩⟩
abbrev kX8_sell : fw_M := (yX8_sell, cX8_sell, 7, (some .int), 4, 88)
theorem o_X8_sell : fw_kv kX8_sell 8 4 := ⟨⟨fw_mem (List.mem_of_getElem? (i := 763) (by decide +kernel)) (by decide +kernel), ini_X8, (by decide +kernel), (by decide +kernel), (by decide +kernel)⟩, fw_mem (List.mem_of_getElem? (i := 761) (by decide +kernel)) (by decide +kernel), fw_mem (List.mem_of_getElem? (i := 762) (by decide +kernel)) (by decide +kernel), by decide, ⟨_, rfl, rfl⟩⟩
abbrev kX8_set : fw_M := (yX8_set, cX8_set, 4, (some .int), 2, 45)
theorem o_X8_set : fw_kv kX8_set 8 2 := ⟨⟨fw_mem (List.mem_of_getElem? (i := 790) (by decide +kernel)) (by decide +kernel), ini_X8, (by decide +kernel), (by decide +kernel), (by decide +kernel)⟩, fw_mem (List.mem_of_getElem? (i := 788) (by decide +kernel)) (by decide +kernel), fw_mem (List.mem_of_getElem? (i := 789) (by decide +kernel)) (by decide +kernel), by decide, ⟨_, rfl, rfl⟩⟩
abbrev kX8_snake : fw_M := (yX8_snake, cX8_snake, 5, (some .int), 2, 45)
theorem o_X8_snake : fw_kv kX8_snake 8 2 := ⟨⟨fw_mem (List.mem_of_getElem? (i := 659) (by decide +kernel)) (by decide +kernel), ini_X8, (by decide +kernel), (by decide +kernel), (by decide +kernel)⟩, fw_mem (List.mem_of_getElem? (i := 657) (by decide +kernel)) (by decide +kernel), fw_mem (List.mem_of_getElem? (i := 658) (by decide +kernel)) (by decide +kernel), by decide, ⟨_, rfl, rfl⟩⟩
abbrev kX8_snakeOf : fw_M := (yX8_snakeOf, cX8_snakeOf, 3, (some .int), 2, 43)
theorem o_X8_snakeOf : fw_kv kX8_snakeOf 8 2 := ⟨⟨fw_mem (List.mem_of_getElem? (i := 858) (by decide +kernel)) (by decide +kernel), ini_X8, (by decide +kernel), (by decide +kernel), (by decide +kernel)⟩, fw_mem (List.mem_of_getElem? (i := 856) (by decide +kernel)) (by decide +kernel), fw_mem (List.mem_of_getElem? (i := 857) (by decide +kernel)) (by decide +kernel), by decide, ⟨_, rfl, rfl⟩⟩
abbrev kX8_tailsAt : fw_M := (yX8_tailsAt, cX8_tailsAt, 4, (some .int), 2, 43)
theorem o_X8_tailsAt : fw_kv kX8_tailsAt 8 1 := ⟨⟨fw_mem (List.mem_of_getElem? (i := 866) (by decide +kernel)) (by decide +kernel), ini_X8, (by decide +kernel), (by decide +kernel), (by decide +kernel)⟩, fw_mem (List.mem_of_getElem? (i := 865) (by decide +kernel)) (by decide +kernel), fw_memS (q := (yX8_tailsAt, 14)) (List.mem_of_getElem? (i := 41) (by decide +kernel)) (by decide +kernel), by decide, ⟨_, rfl, rfl⟩⟩
abbrev kX8_square : fw_M := (yX8_square, cX8_square, 3, (some .int), 3, 66)
theorem o_X8_square : fw_kv kX8_square 8 2 := ⟨⟨fw_mem (List.mem_of_getElem? (i := 862) (by decide +kernel)) (by decide +kernel), ini_X8, (by decide +kernel), (by decide +kernel), (by decide +kernel)⟩, fw_mem (List.mem_of_getElem? (i := 860) (by decide +kernel)) (by decide +kernel), fw_mem (List.mem_of_getElem? (i := 861) (by decide +kernel)) (by decide +kernel), by decide, ⟨_, rfl, rfl⟩⟩
abbrev kX8_turn : fw_M := (yX8_turn, cX8_turn, 3, (some .int), 4, 94)
theorem o_X8_turn : fw_kv kX8_turn 8 1 := ⟨⟨fw_mem (List.mem_of_getElem? (i := 693) (by decide +kernel)) (by decide +kernel), ini_X8, (by decide +kernel), (by decide +kernel), (by decide +kernel)⟩, fw_mem (List.mem_of_getElem? (i := 691) (by decide +kernel)) (by decide +kernel), fw_mem (List.mem_of_getElem? (i := 692) (by decide +kernel)) (by decide +kernel), by decide, ⟨_, rfl, rfl⟩⟩
abbrev kX8_undo : fw_M := (yX8_undo, cX8_undo, 1, (some .int), 1, 24)
theorem o_X8_undo : fw_kv kX8_undo 8 0 := ⟨⟨fw_mem (List.mem_of_getElem? (i := 838) (by decide +kernel)) (by decide +kernel), ini_X8, (by decide +kernel), (by decide +kernel), (by decide +kernel)⟩, fw_mem (List.mem_of_getElem? (i := 836) (by decide +kernel)) (by decide +kernel), fw_mem (List.mem_of_getElem? (i := 837) (by decide +kernel)) (by decide +kernel), by decide, ⟨_, rfl, rfl⟩⟩
abbrev kX8_why : fw_M := (yX8_why, cX8_why, 6, (some .int), 4, 88)
theorem o_X8_why : fw_kv kX8_why 8 4 := ⟨⟨fw_mem (List.mem_of_getElem? (i := 878) (by decide +kernel)) (by decide +kernel), ini_X8, (by decide +kernel), (by decide +kernel), (by decide +kernel)⟩, fw_mem (List.mem_of_getElem? (i := 876) (by decide +kernel)) (by decide +kernel), fw_mem (List.mem_of_getElem? (i := 877) (by decide +kernel)) (by decide +kernel), by decide, ⟨_, rfl, rfl⟩⟩
end
section
theorem dX0_init_0 : decode cX0_init 0 = .ok (.aload_n 0, 1) := by decide +kernel
theorem dX0_init_1 : decode cX0_init 1 = .ok (.invokespecial 1, 3) := by decide +kernel
theorem dX0_init_4 : decode cX0_init 4 = .ok (.return_, 1) := by decide +kernel
theorem dX0_begin_0 : decode cX0_begin 0 = .ok (.aload_n 0, 1) := by decide +kernel
theorem dX0_begin_1 : decode cX0_begin 1 = .ok (.iload_n 1, 1) := by decide +kernel
theorem dX0_begin_2 : decode cX0_begin 2 = .ok (.putfield 7, 3) := by decide +kernel
theorem dX0_begin_5 : decode cX0_begin 5 = .ok (.aload_n 0, 1) := by decide +kernel
theorem dX0_begin_6 : decode cX0_begin 6 = .ok (.iconst 0, 1) := by decide +kernel
theorem dX0_begin_7 : decode cX0_begin 7 = .ok (.putfield 13, 3) := by decide +kernel
theorem dX0_begin_10 : decode cX0_begin 10 = .ok (.aload_n 0, 1) := by decide +kernel
theorem dX0_begin_11 : decode cX0_begin 11 = .ok (.iload_n 2, 1) := by decide +kernel
theorem dX0_begin_12 : decode cX0_begin 12 = .ok (.putfield 16, 3) := by decide +kernel
theorem dX0_begin_15 : decode cX0_begin 15 = .ok (.aload_n 0, 1) := by decide +kernel
theorem dX0_begin_16 : decode cX0_begin 16 = .ok (.iconst 1, 1) := by decide +kernel
theorem dX0_begin_17 : decode cX0_begin 17 = .ok (.iload_n 2, 1) := by decide +kernel
theorem dX0_begin_18 : decode cX0_begin 18 = .ok (.ishl, 1) := by decide +kernel
theorem dX0_begin_19 : decode cX0_begin 19 = .ok (.putfield 19, 3) := by decide +kernel
theorem dX0_begin_22 : decode cX0_begin 22 = .ok (.return_, 1) := by decide +kernel
theorem dX0_copyFrom_0 : decode cX0_copyFrom 0 = .ok (.aload_n 0, 1) := by decide +kernel
theorem dX0_copyFrom_1 : decode cX0_copyFrom 1 = .ok (.aload_n 1, 1) := by decide +kernel
theorem dX0_copyFrom_2 : decode cX0_copyFrom 2 = .ok (.getfield 7, 3) := by decide +kernel
theorem dX0_copyFrom_5 : decode cX0_copyFrom 5 = .ok (.putfield 7, 3) := by decide +kernel
theorem dX0_copyFrom_8 : decode cX0_copyFrom 8 = .ok (.aload_n 0, 1) := by decide +kernel
theorem dX0_copyFrom_9 : decode cX0_copyFrom 9 = .ok (.aload_n 1, 1) := by decide +kernel
theorem dX0_copyFrom_10 : decode cX0_copyFrom 10 = .ok (.getfield 13, 3) := by decide +kernel
theorem dX0_copyFrom_13 : decode cX0_copyFrom 13 = .ok (.putfield 13, 3) := by decide +kernel
theorem dX0_copyFrom_16 : decode cX0_copyFrom 16 = .ok (.aload_n 0, 1) := by decide +kernel
theorem dX0_copyFrom_17 : decode cX0_copyFrom 17 = .ok (.aload_n 1, 1) := by decide +kernel
theorem dX0_copyFrom_18 : decode cX0_copyFrom 18 = .ok (.getfield 16, 3) := by decide +kernel
theorem dX0_copyFrom_21 : decode cX0_copyFrom 21 = .ok (.putfield 16, 3) := by decide +kernel
theorem dX0_copyFrom_24 : decode cX0_copyFrom 24 = .ok (.aload_n 0, 1) := by decide +kernel
theorem dX0_copyFrom_25 : decode cX0_copyFrom 25 = .ok (.aload_n 1, 1) := by decide +kernel
theorem dX0_copyFrom_26 : decode cX0_copyFrom 26 = .ok (.getfield 19, 3) := by decide +kernel
theorem dX0_copyFrom_29 : decode cX0_copyFrom 29 = .ok (.putfield 19, 3) := by decide +kernel
theorem dX0_copyFrom_32 : decode cX0_copyFrom 32 = .ok (.return_, 1) := by decide +kernel
theorem dX0_passTo_0 : decode cX0_passTo 0 = .ok (.aload_n 0, 1) := by decide +kernel
theorem dX0_passTo_1 : decode cX0_passTo 1 = .ok (.dup, 1) := by decide +kernel
theorem dX0_passTo_2 : decode cX0_passTo 2 = .ok (.getfield 13, 3) := by decide +kernel
theorem dX0_passTo_5 : decode cX0_passTo 5 = .ok (.iconst 1, 1) := by decide +kernel
theorem dX0_passTo_6 : decode cX0_passTo 6 = .ok (.iadd, 1) := by decide +kernel
theorem dX0_passTo_7 : decode cX0_passTo 7 = .ok (.putfield 13, 3) := by decide +kernel
theorem dX0_passTo_10 : decode cX0_passTo 10 = .ok (.aload_n 0, 1) := by decide +kernel
theorem dX0_passTo_11 : decode cX0_passTo 11 = .ok (.dup, 1) := by decide +kernel
theorem dX0_passTo_12 : decode cX0_passTo 12 = .ok (.getfield 19, 3) := by decide +kernel
theorem dX0_passTo_15 : decode cX0_passTo 15 = .ok (.iconst 1, 1) := by decide +kernel
theorem dX0_passTo_16 : decode cX0_passTo 16 = .ok (.iload_n 1, 1) := by decide +kernel
theorem dX0_passTo_17 : decode cX0_passTo 17 = .ok (.ishl, 1) := by decide +kernel
theorem dX0_passTo_18 : decode cX0_passTo 18 = .ok (.ior, 1) := by decide +kernel
theorem dX0_passTo_19 : decode cX0_passTo 19 = .ok (.putfield 19, 3) := by decide +kernel
theorem dX0_passTo_22 : decode cX0_passTo 22 = .ok (.return_, 1) := by decide +kernel
theorem dX0_wasHeldBy_0 : decode cX0_wasHeldBy 0 = .ok (.aload_n 0, 1) := by decide +kernel
theorem dX0_wasHeldBy_1 : decode cX0_wasHeldBy 1 = .ok (.getfield 19, 3) := by decide +kernel
theorem dX0_wasHeldBy_4 : decode cX0_wasHeldBy 4 = .ok (.iconst 1, 1) := by decide +kernel
theorem dX0_wasHeldBy_5 : decode cX0_wasHeldBy 5 = .ok (.iload_n 1, 1) := by decide +kernel
theorem dX0_wasHeldBy_6 : decode cX0_wasHeldBy 6 = .ok (.ishl, 1) := by decide +kernel
theorem dX0_wasHeldBy_7 : decode cX0_wasHeldBy 7 = .ok (.iand, 1) := by decide +kernel
theorem dX0_wasHeldBy_8 : decode cX0_wasHeldBy 8 = .ok (.ifCond .eq 7, 3) := by decide +kernel
theorem dX0_wasHeldBy_11 : decode cX0_wasHeldBy 11 = .ok (.iconst 1, 1) := by decide +kernel
theorem dX0_wasHeldBy_12 : decode cX0_wasHeldBy 12 = .ok (.goto 4, 3) := by decide +kernel
theorem dX0_wasHeldBy_15 : decode cX0_wasHeldBy 15 = .ok (.iconst 0, 1) := by decide +kernel
theorem dX0_wasHeldBy_16 : decode cX0_wasHeldBy 16 = .ok (.ireturn, 1) := by decide +kernel
theorem dX1_init_0 : decode cX1_init 0 = .ok (.aload_n 0, 1) := by decide +kernel
theorem dX1_init_1 : decode cX1_init 1 = .ok (.invokespecial 3, 3) := by decide +kernel
theorem dX1_init_4 : decode cX1_init 4 = .ok (.aload_n 0, 1) := by decide +kernel
theorem dX1_init_5 : decode cX1_init 5 = .ok (.iconst 5, 1) := by decide +kernel
theorem dX1_init_6 : decode cX1_init 6 = .ok (.anewarray 9, 3) := by decide +kernel
theorem dX1_init_9 : decode cX1_init 9 = .ok (.putfield 11, 3) := by decide +kernel
theorem dX1_init_12 : decode cX1_init 12 = .ok (.iconst 0, 1) := by decide +kernel
theorem dX1_init_13 : decode cX1_init 13 = .ok (.istore_n 1, 1) := by decide +kernel
theorem dX1_init_14 : decode cX1_init 14 = .ok (.iload_n 1, 1) := by decide +kernel
theorem dX1_init_15 : decode cX1_init 15 = .ok (.aload_n 0, 1) := by decide +kernel
theorem dX1_init_16 : decode cX1_init 16 = .ok (.getfield 11, 3) := by decide +kernel
theorem dX1_init_19 : decode cX1_init 19 = .ok (.arraylength, 1) := by decide +kernel
theorem dX1_init_20 : decode cX1_init 20 = .ok (.if_icmp .ge 22, 3) := by decide +kernel
theorem dX1_init_23 : decode cX1_init 23 = .ok (.aload_n 0, 1) := by decide +kernel
theorem dX1_init_24 : decode cX1_init 24 = .ok (.getfield 11, 3) := by decide +kernel
theorem dX1_init_27 : decode cX1_init 27 = .ok (.iload_n 1, 1) := by decide +kernel
theorem dX1_init_28 : decode cX1_init 28 = .ok (.new 9, 3) := by decide +kernel
theorem dX1_init_31 : decode cX1_init 31 = .ok (.dup, 1) := by decide +kernel
theorem dX1_init_32 : decode cX1_init 32 = .ok (.invokespecial 17, 3) := by decide +kernel
theorem dX1_init_35 : decode cX1_init 35 = .ok (.aastore, 1) := by decide +kernel
theorem dX1_init_36 : decode cX1_init 36 = .ok (.iinc 1 1, 3) := by decide +kernel
theorem dX1_init_39 : decode cX1_init 39 = .ok (.goto (-25), 3) := by decide +kernel
theorem dX1_init_42 : decode cX1_init 42 = .ok (.return_, 1) := by decide +kernel
theorem dX1_stateAt_0 : decode cX1_stateAt 0 = .ok (.iload_n 1, 1) := by decide +kernel
theorem dX1_stateAt_1 : decode cX1_stateAt 1 = .ok (.ifCond .lt 21, 3) := by decide +kernel
theorem dX1_stateAt_4 : decode cX1_stateAt 4 = .ok (.iload_n 1, 1) := by decide +kernel
theorem dX1_stateAt_5 : decode cX1_stateAt 5 = .ok (.aload_n 0, 1) := by decide +kernel
theorem dX1_stateAt_6 : decode cX1_stateAt 6 = .ok (.getfield 11, 3) := by decide +kernel
theorem dX1_stateAt_9 : decode cX1_stateAt 9 = .ok (.arraylength, 1) := by decide +kernel
theorem dX1_stateAt_10 : decode cX1_stateAt 10 = .ok (.if_icmp .ge 12, 3) := by decide +kernel
theorem dX1_stateAt_13 : decode cX1_stateAt 13 = .ok (.aload_n 0, 1) := by decide +kernel
theorem dX1_stateAt_14 : decode cX1_stateAt 14 = .ok (.getfield 11, 3) := by decide +kernel
theorem dX1_stateAt_17 : decode cX1_stateAt 17 = .ok (.iload_n 1, 1) := by decide +kernel
theorem dX1_stateAt_18 : decode cX1_stateAt 18 = .ok (.aaload, 1) := by decide +kernel
theorem dX1_stateAt_19 : decode cX1_stateAt 19 = .ok (.goto 4, 3) := by decide +kernel
theorem dX1_stateAt_22 : decode cX1_stateAt 22 = .ok (.aconst_null, 1) := by decide +kernel
theorem dX1_stateAt_23 : decode cX1_stateAt 23 = .ok (.areturn, 1) := by decide +kernel
theorem dX1_remember_0 : decode cX1_remember 0 = .ok (.aload_n 0, 1) := by decide +kernel
theorem dX1_remember_1 : decode cX1_remember 1 = .ok (.getfield 18, 3) := by decide +kernel
theorem dX1_remember_4 : decode cX1_remember 4 = .ok (.aload_n 0, 1) := by decide +kernel
theorem dX1_remember_5 : decode cX1_remember 5 = .ok (.getfield 11, 3) := by decide +kernel
theorem dX1_remember_8 : decode cX1_remember 8 = .ok (.arraylength, 1) := by decide +kernel
theorem dX1_remember_9 : decode cX1_remember 9 = .ok (.if_icmp .lt 7, 3) := by decide +kernel
theorem dX1_remember_12 : decode cX1_remember 12 = .ok (.aload_n 0, 1) := by decide +kernel
theorem dX1_remember_13 : decode cX1_remember 13 = .ok (.invokevirtual 22, 3) := by decide +kernel
theorem dX1_remember_16 : decode cX1_remember 16 = .ok (.aload_n 0, 1) := by decide +kernel
theorem dX1_remember_17 : decode cX1_remember 17 = .ok (.aload_n 0, 1) := by decide +kernel
theorem dX1_remember_18 : decode cX1_remember 18 = .ok (.getfield 18, 3) := by decide +kernel
theorem dX1_remember_21 : decode cX1_remember 21 = .ok (.invokevirtual 25, 3) := by decide +kernel
theorem dX1_remember_24 : decode cX1_remember 24 = .ok (.astore_n 2, 1) := by decide +kernel
theorem dX1_remember_25 : decode cX1_remember 25 = .ok (.aload_n 2, 1) := by decide +kernel
theorem dX1_remember_26 : decode cX1_remember 26 = .ok (.ifnull 18, 3) := by decide +kernel
theorem dX1_remember_29 : decode cX1_remember 29 = .ok (.aload_n 2, 1) := by decide +kernel
theorem dX1_remember_30 : decode cX1_remember 30 = .ok (.aload_n 1, 1) := by decide +kernel
theorem dX1_remember_31 : decode cX1_remember 31 = .ok (.invokevirtual 29, 3) := by decide +kernel
theorem dX1_remember_34 : decode cX1_remember 34 = .ok (.aload_n 0, 1) := by decide +kernel
theorem dX1_remember_35 : decode cX1_remember 35 = .ok (.dup, 1) := by decide +kernel
theorem dX1_remember_36 : decode cX1_remember 36 = .ok (.getfield 18, 3) := by decide +kernel
theorem dX1_remember_39 : decode cX1_remember 39 = .ok (.iconst 1, 1) := by decide +kernel
theorem dX1_remember_40 : decode cX1_remember 40 = .ok (.iadd, 1) := by decide +kernel
theorem dX1_remember_41 : decode cX1_remember 41 = .ok (.putfield 18, 3) := by decide +kernel
theorem dX1_remember_44 : decode cX1_remember 44 = .ok (.return_, 1) := by decide +kernel
theorem dX1_bringBack_0 : decode cX1_bringBack 0 = .ok (.aload_n 0, 1) := by decide +kernel
theorem dX1_bringBack_1 : decode cX1_bringBack 1 = .ok (.aload_n 0, 1) := by decide +kernel
theorem dX1_bringBack_2 : decode cX1_bringBack 2 = .ok (.getfield 18, 3) := by decide +kernel
theorem dX1_bringBack_5 : decode cX1_bringBack 5 = .ok (.iconst 1, 1) := by decide +kernel
theorem dX1_bringBack_6 : decode cX1_bringBack 6 = .ok (.isub, 1) := by decide +kernel
theorem dX1_bringBack_7 : decode cX1_bringBack 7 = .ok (.invokevirtual 25, 3) := by decide +kernel
theorem dX1_bringBack_10 : decode cX1_bringBack 10 = .ok (.astore_n 2, 1) := by decide +kernel
theorem dX1_bringBack_11 : decode cX1_bringBack 11 = .ok (.aload_n 2, 1) := by decide +kernel
theorem dX1_bringBack_12 : decode cX1_bringBack 12 = .ok (.ifnonnull 6, 3) := by decide +kernel
theorem dX1_bringBack_15 : decode cX1_bringBack 15 = .ok (.bipush (-5), 2) := by decide +kernel
theorem dX1_bringBack_17 : decode cX1_bringBack 17 = .ok (.ireturn, 1) := by decide +kernel
theorem dX1_bringBack_18 : decode cX1_bringBack 18 = .ok (.aload_n 1, 1) := by decide +kernel
theorem dX1_bringBack_19 : decode cX1_bringBack 19 = .ok (.aload_n 2, 1) := by decide +kernel
theorem dX1_bringBack_20 : decode cX1_bringBack 20 = .ok (.invokevirtual 29, 3) := by decide +kernel
theorem dX1_bringBack_23 : decode cX1_bringBack 23 = .ok (.aload_n 0, 1) := by decide +kernel
theorem dX1_bringBack_24 : decode cX1_bringBack 24 = .ok (.dup, 1) := by decide +kernel
theorem dX1_bringBack_25 : decode cX1_bringBack 25 = .ok (.getfield 18, 3) := by decide +kernel
theorem dX1_bringBack_28 : decode cX1_bringBack 28 = .ok (.iconst 1, 1) := by decide +kernel
theorem dX1_bringBack_29 : decode cX1_bringBack 29 = .ok (.isub, 1) := by decide +kernel
theorem dX1_bringBack_30 : decode cX1_bringBack 30 = .ok (.putfield 18, 3) := by decide +kernel
theorem dX1_bringBack_33 : decode cX1_bringBack 33 = .ok (.aload_n 0, 1) := by decide +kernel
theorem dX1_bringBack_34 : decode cX1_bringBack 34 = .ok (.getfield 18, 3) := by decide +kernel
theorem dX1_bringBack_37 : decode cX1_bringBack 37 = .ok (.ireturn, 1) := by decide +kernel
theorem dX1_dropOldest_0 : decode cX1_dropOldest 0 = .ok (.aload_n 0, 1) := by decide +kernel
theorem dX1_dropOldest_1 : decode cX1_dropOldest 1 = .ok (.iconst 0, 1) := by decide +kernel
theorem dX1_dropOldest_2 : decode cX1_dropOldest 2 = .ok (.invokevirtual 25, 3) := by decide +kernel
theorem dX1_dropOldest_5 : decode cX1_dropOldest 5 = .ok (.astore_n 1, 1) := by decide +kernel
theorem dX1_dropOldest_6 : decode cX1_dropOldest 6 = .ok (.iconst 0, 1) := by decide +kernel
theorem dX1_dropOldest_7 : decode cX1_dropOldest 7 = .ok (.istore_n 2, 1) := by decide +kernel
theorem dX1_dropOldest_8 : decode cX1_dropOldest 8 = .ok (.iload_n 2, 1) := by decide +kernel
theorem dX1_dropOldest_9 : decode cX1_dropOldest 9 = .ok (.iconst 1, 1) := by decide +kernel
theorem dX1_dropOldest_10 : decode cX1_dropOldest 10 = .ok (.iadd, 1) := by decide +kernel
theorem dX1_dropOldest_11 : decode cX1_dropOldest 11 = .ok (.aload_n 0, 1) := by decide +kernel
theorem dX1_dropOldest_12 : decode cX1_dropOldest 12 = .ok (.getfield 11, 3) := by decide +kernel
theorem dX1_dropOldest_15 : decode cX1_dropOldest 15 = .ok (.arraylength, 1) := by decide +kernel
theorem dX1_dropOldest_16 : decode cX1_dropOldest 16 = .ok (.if_icmp .ge 23, 3) := by decide +kernel
theorem dX1_dropOldest_19 : decode cX1_dropOldest 19 = .ok (.aload_n 0, 1) := by decide +kernel
theorem dX1_dropOldest_20 : decode cX1_dropOldest 20 = .ok (.getfield 11, 3) := by decide +kernel
theorem dX1_dropOldest_23 : decode cX1_dropOldest 23 = .ok (.iload_n 2, 1) := by decide +kernel
theorem dX1_dropOldest_24 : decode cX1_dropOldest 24 = .ok (.aload_n 0, 1) := by decide +kernel
theorem dX1_dropOldest_25 : decode cX1_dropOldest 25 = .ok (.getfield 11, 3) := by decide +kernel
theorem dX1_dropOldest_28 : decode cX1_dropOldest 28 = .ok (.iload_n 2, 1) := by decide +kernel
theorem dX1_dropOldest_29 : decode cX1_dropOldest 29 = .ok (.iconst 1, 1) := by decide +kernel
theorem dX1_dropOldest_30 : decode cX1_dropOldest 30 = .ok (.iadd, 1) := by decide +kernel
theorem dX1_dropOldest_31 : decode cX1_dropOldest 31 = .ok (.aaload, 1) := by decide +kernel
theorem dX1_dropOldest_32 : decode cX1_dropOldest 32 = .ok (.aastore, 1) := by decide +kernel
theorem dX1_dropOldest_33 : decode cX1_dropOldest 33 = .ok (.iinc 2 1, 3) := by decide +kernel
theorem dX1_dropOldest_36 : decode cX1_dropOldest 36 = .ok (.goto (-28), 3) := by decide +kernel
theorem dX1_dropOldest_39 : decode cX1_dropOldest 39 = .ok (.aload_n 0, 1) := by decide +kernel
theorem dX1_dropOldest_40 : decode cX1_dropOldest 40 = .ok (.getfield 11, 3) := by decide +kernel
theorem dX1_dropOldest_43 : decode cX1_dropOldest 43 = .ok (.arraylength, 1) := by decide +kernel
theorem dX1_dropOldest_44 : decode cX1_dropOldest 44 = .ok (.iconst 1, 1) := by decide +kernel
theorem dX1_dropOldest_45 : decode cX1_dropOldest 45 = .ok (.isub, 1) := by decide +kernel
theorem dX1_dropOldest_46 : decode cX1_dropOldest 46 = .ok (.istore_n 2, 1) := by decide +kernel
theorem dX1_dropOldest_47 : decode cX1_dropOldest 47 = .ok (.iload_n 2, 1) := by decide +kernel
theorem dX1_dropOldest_48 : decode cX1_dropOldest 48 = .ok (.ifCond .lt 15, 3) := by decide +kernel
theorem dX1_dropOldest_51 : decode cX1_dropOldest 51 = .ok (.aload_n 0, 1) := by decide +kernel
theorem dX1_dropOldest_52 : decode cX1_dropOldest 52 = .ok (.getfield 11, 3) := by decide +kernel
theorem dX1_dropOldest_55 : decode cX1_dropOldest 55 = .ok (.iload_n 2, 1) := by decide +kernel
theorem dX1_dropOldest_56 : decode cX1_dropOldest 56 = .ok (.aload_n 1, 1) := by decide +kernel
theorem dX1_dropOldest_57 : decode cX1_dropOldest 57 = .ok (.aastore, 1) := by decide +kernel
theorem dX1_dropOldest_58 : decode cX1_dropOldest 58 = .ok (.aload_n 0, 1) := by decide +kernel
theorem dX1_dropOldest_59 : decode cX1_dropOldest 59 = .ok (.iload_n 2, 1) := by decide +kernel
theorem dX1_dropOldest_60 : decode cX1_dropOldest 60 = .ok (.putfield 18, 3) := by decide +kernel
theorem dX1_dropOldest_63 : decode cX1_dropOldest 63 = .ok (.return_, 1) := by decide +kernel
theorem dX2_init_0 : decode cX2_init 0 = .ok (.aload_n 0, 1) := by decide +kernel
theorem dX2_init_1 : decode cX2_init 1 = .ok (.invokespecial 3, 3) := by decide +kernel
theorem dX2_init_4 : decode cX2_init 4 = .ok (.aload_n 0, 1) := by decide +kernel
theorem dX2_init_5 : decode cX2_init 5 = .ok (.bipush 16, 2) := by decide +kernel
theorem dX2_init_7 : decode cX2_init 7 = .ok (.anewarray 9, 3) := by decide +kernel
theorem dX2_init_10 : decode cX2_init 10 = .ok (.putfield 11, 3) := by decide +kernel
theorem dX2_init_13 : decode cX2_init 13 = .ok (.iconst 0, 1) := by decide +kernel
theorem dX2_init_14 : decode cX2_init 14 = .ok (.istore_n 1, 1) := by decide +kernel
theorem dX2_init_15 : decode cX2_init 15 = .ok (.iload_n 1, 1) := by decide +kernel
theorem dX2_init_16 : decode cX2_init 16 = .ok (.aload_n 0, 1) := by decide +kernel
theorem dX2_init_17 : decode cX2_init 17 = .ok (.getfield 11, 3) := by decide +kernel
theorem dX2_init_20 : decode cX2_init 20 = .ok (.arraylength, 1) := by decide +kernel
theorem dX2_init_21 : decode cX2_init 21 = .ok (.if_icmp .ge 22, 3) := by decide +kernel
theorem dX2_init_24 : decode cX2_init 24 = .ok (.aload_n 0, 1) := by decide +kernel
theorem dX2_init_25 : decode cX2_init 25 = .ok (.getfield 11, 3) := by decide +kernel
theorem dX2_init_28 : decode cX2_init 28 = .ok (.iload_n 1, 1) := by decide +kernel
theorem dX2_init_29 : decode cX2_init 29 = .ok (.new 9, 3) := by decide +kernel
theorem dX2_init_32 : decode cX2_init 32 = .ok (.dup, 1) := by decide +kernel
theorem dX2_init_33 : decode cX2_init 33 = .ok (.invokespecial 17, 3) := by decide +kernel
theorem dX2_init_36 : decode cX2_init 36 = .ok (.aastore, 1) := by decide +kernel
theorem dX2_init_37 : decode cX2_init 37 = .ok (.iinc 1 1, 3) := by decide +kernel
theorem dX2_init_40 : decode cX2_init 40 = .ok (.goto (-25), 3) := by decide +kernel
theorem dX2_init_43 : decode cX2_init 43 = .ok (.aload_n 0, 1) := by decide +kernel
theorem dX2_init_44 : decode cX2_init 44 = .ok (.bipush 10, 2) := by decide +kernel
theorem dX2_init_46 : decode cX2_init 46 = .ok (.putfield 18, 3) := by decide +kernel
theorem dX2_init_49 : decode cX2_init 49 = .ok (.aload_n 0, 1) := by decide +kernel
theorem dX2_init_50 : decode cX2_init 50 = .ok (.bipush (-5), 2) := by decide +kernel
theorem dX2_init_52 : decode cX2_init 52 = .ok (.putfield 22, 3) := by decide +kernel
theorem dX2_init_55 : decode cX2_init 55 = .ok (.return_, 1) := by decide +kernel
theorem dX2_isInRace_0 : decode cX2_isInRace 0 = .ok (.aload_n 0, 1) := by decide +kernel
theorem dX2_isInRace_1 : decode cX2_isInRace 1 = .ok (.getfield 25, 3) := by decide +kernel
theorem dX2_isInRace_4 : decode cX2_isInRace 4 = .ok (.bipush 60, 2) := by decide +kernel
theorem dX2_isInRace_6 : decode cX2_isInRace 6 = .ok (.if_icmp .eq 7, 3) := by decide +kernel
theorem dX2_isInRace_9 : decode cX2_isInRace 9 = .ok (.iconst 1, 1) := by decide +kernel
theorem dX2_isInRace_10 : decode cX2_isInRace 10 = .ok (.goto 4, 3) := by decide +kernel
theorem dX2_isInRace_13 : decode cX2_isInRace 13 = .ok (.iconst 0, 1) := by decide +kernel
theorem dX2_isInRace_14 : decode cX2_isInRace 14 = .ok (.ireturn, 1) := by decide +kernel
theorem dX2_biteAt_0 : decode cX2_biteAt 0 = .ok (.iload_n 1, 1) := by decide +kernel
theorem dX2_biteAt_1 : decode cX2_biteAt 1 = .ok (.ifCond .lt 29, 3) := by decide +kernel
theorem dX2_biteAt_4 : decode cX2_biteAt 4 = .ok (.iload_n 1, 1) := by decide +kernel
theorem dX2_biteAt_5 : decode cX2_biteAt 5 = .ok (.aload_n 0, 1) := by decide +kernel
theorem dX2_biteAt_6 : decode cX2_biteAt 6 = .ok (.getfield 28, 3) := by decide +kernel
theorem dX2_biteAt_9 : decode cX2_biteAt 9 = .ok (.if_icmp .ge 21, 3) := by decide +kernel
theorem dX2_biteAt_12 : decode cX2_biteAt 12 = .ok (.iload_n 1, 1) := by decide +kernel
theorem dX2_biteAt_13 : decode cX2_biteAt 13 = .ok (.aload_n 0, 1) := by decide +kernel
theorem dX2_biteAt_14 : decode cX2_biteAt 14 = .ok (.getfield 11, 3) := by decide +kernel
theorem dX2_biteAt_17 : decode cX2_biteAt 17 = .ok (.arraylength, 1) := by decide +kernel
theorem dX2_biteAt_18 : decode cX2_biteAt 18 = .ok (.if_icmp .ge 12, 3) := by decide +kernel
theorem dX2_biteAt_21 : decode cX2_biteAt 21 = .ok (.aload_n 0, 1) := by decide +kernel
theorem dX2_biteAt_22 : decode cX2_biteAt 22 = .ok (.getfield 11, 3) := by decide +kernel
theorem dX2_biteAt_25 : decode cX2_biteAt 25 = .ok (.iload_n 1, 1) := by decide +kernel
theorem dX2_biteAt_26 : decode cX2_biteAt 26 = .ok (.aaload, 1) := by decide +kernel
theorem dX2_biteAt_27 : decode cX2_biteAt 27 = .ok (.goto 4, 3) := by decide +kernel
theorem dX2_biteAt_30 : decode cX2_biteAt 30 = .ok (.aconst_null, 1) := by decide +kernel
theorem dX2_biteAt_31 : decode cX2_biteAt 31 = .ok (.areturn, 1) := by decide +kernel
theorem dX2_sizesTogether_0 : decode cX2_sizesTogether 0 = .ok (.iconst 0, 1) := by decide +kernel
theorem dX2_sizesTogether_1 : decode cX2_sizesTogether 1 = .ok (.istore_n 1, 1) := by decide +kernel
theorem dX2_sizesTogether_2 : decode cX2_sizesTogether 2 = .ok (.iconst 0, 1) := by decide +kernel
theorem dX2_sizesTogether_3 : decode cX2_sizesTogether 3 = .ok (.istore_n 2, 1) := by decide +kernel
theorem dX2_sizesTogether_4 : decode cX2_sizesTogether 4 = .ok (.iload_n 2, 1) := by decide +kernel
theorem dX2_sizesTogether_5 : decode cX2_sizesTogether 5 = .ok (.aload_n 0, 1) := by decide +kernel
theorem dX2_sizesTogether_6 : decode cX2_sizesTogether 6 = .ok (.getfield 28, 3) := by decide +kernel
theorem dX2_sizesTogether_9 : decode cX2_sizesTogether 9 = .ok (.if_icmp .ge 30, 3) := by decide +kernel
theorem dX2_sizesTogether_12 : decode cX2_sizesTogether 12 = .ok (.aload_n 0, 1) := by decide +kernel
theorem dX2_sizesTogether_13 : decode cX2_sizesTogether 13 = .ok (.iload_n 2, 1) := by decide +kernel
theorem dX2_sizesTogether_14 : decode cX2_sizesTogether 14 = .ok (.invokevirtual 31, 3) := by decide +kernel
theorem dX2_sizesTogether_17 : decode cX2_sizesTogether 17 = .ok (.astore_n 3, 1) := by decide +kernel
theorem dX2_sizesTogether_18 : decode cX2_sizesTogether 18 = .ok (.iload_n 1, 1) := by decide +kernel
theorem dX2_sizesTogether_19 : decode cX2_sizesTogether 19 = .ok (.aload_n 3, 1) := by decide +kernel
theorem dX2_sizesTogether_20 : decode cX2_sizesTogether 20 = .ok (.ifnonnull 7, 3) := by decide +kernel
theorem dX2_sizesTogether_23 : decode cX2_sizesTogether 23 = .ok (.iconst 0, 1) := by decide +kernel
theorem dX2_sizesTogether_24 : decode cX2_sizesTogether 24 = .ok (.goto 7, 3) := by decide +kernel
theorem dX2_sizesTogether_27 : decode cX2_sizesTogether 27 = .ok (.aload_n 3, 1) := by decide +kernel
theorem dX2_sizesTogether_28 : decode cX2_sizesTogether 28 = .ok (.getfield 35, 3) := by decide +kernel
theorem dX2_sizesTogether_31 : decode cX2_sizesTogether 31 = .ok (.iadd, 1) := by decide +kernel
theorem dX2_sizesTogether_32 : decode cX2_sizesTogether 32 = .ok (.istore_n 1, 1) := by decide +kernel
theorem dX2_sizesTogether_33 : decode cX2_sizesTogether 33 = .ok (.iinc 2 1, 3) := by decide +kernel
theorem dX2_sizesTogether_36 : decode cX2_sizesTogether 36 = .ok (.goto (-32), 3) := by decide +kernel
theorem dX2_sizesTogether_39 : decode cX2_sizesTogether 39 = .ok (.iload_n 1, 1) := by decide +kernel
theorem dX2_sizesTogether_40 : decode cX2_sizesTogether 40 = .ok (.ireturn, 1) := by decide +kernel
theorem dX2_nextBeginning_0 : decode cX2_nextBeginning 0 = .ok (.aload_n 0, 1) := by decide +kernel
theorem dX2_nextBeginning_1 : decode cX2_nextBeginning 1 = .ok (.getfield 25, 3) := by decide +kernel
theorem dX2_nextBeginning_4 : decode cX2_nextBeginning 4 = .ok (.aload_n 0, 1) := by decide +kernel
theorem dX2_nextBeginning_5 : decode cX2_nextBeginning 5 = .ok (.invokevirtual 38, 3) := by decide +kernel
theorem dX2_nextBeginning_8 : decode cX2_nextBeginning 8 = .ok (.isub, 1) := by decide +kernel
theorem dX2_nextBeginning_9 : decode cX2_nextBeginning 9 = .ok (.istore_n 1, 1) := by decide +kernel
theorem dX2_nextBeginning_10 : decode cX2_nextBeginning 10 = .ok (.iload_n 1, 1) := by decide +kernel
theorem dX2_nextBeginning_11 : decode cX2_nextBeginning 11 = .ok (.ifCond .le 7, 3) := by decide +kernel
theorem dX2_nextBeginning_14 : decode cX2_nextBeginning 14 = .ok (.iload_n 1, 1) := by decide +kernel
theorem dX2_nextBeginning_15 : decode cX2_nextBeginning 15 = .ok (.goto 4, 3) := by decide +kernel
theorem dX2_nextBeginning_18 : decode cX2_nextBeginning 18 = .ok (.iconst 0, 1) := by decide +kernel
theorem dX2_nextBeginning_19 : decode cX2_nextBeginning 19 = .ok (.ireturn, 1) := by decide +kernel
theorem dX2_hurt_0 : decode cX2_hurt 0 = .ok (.aload_n 0, 1) := by decide +kernel
theorem dX2_hurt_1 : decode cX2_hurt 1 = .ok (.invokevirtual 42, 3) := by decide +kernel
theorem dX2_hurt_4 : decode cX2_hurt 4 = .ok (.istore_n 1, 1) := by decide +kernel
theorem dX2_hurt_5 : decode cX2_hurt 5 = .ok (.aload_n 0, 1) := by decide +kernel
theorem dX2_hurt_6 : decode cX2_hurt 6 = .ok (.dup, 1) := by decide +kernel
theorem dX2_hurt_7 : decode cX2_hurt 7 = .ok (.getfield 45, 3) := by decide +kernel
theorem dX2_hurt_10 : decode cX2_hurt 10 = .ok (.aload_n 0, 1) := by decide +kernel
theorem dX2_hurt_11 : decode cX2_hurt 11 = .ok (.getfield 25, 3) := by decide +kernel
theorem dX2_hurt_14 : decode cX2_hurt 14 = .ok (.iload_n 1, 1) := by decide +kernel
theorem dX2_hurt_15 : decode cX2_hurt 15 = .ok (.isub, 1) := by decide +kernel
theorem dX2_hurt_16 : decode cX2_hurt 16 = .ok (.iadd, 1) := by decide +kernel
theorem dX2_hurt_17 : decode cX2_hurt 17 = .ok (.putfield 45, 3) := by decide +kernel
theorem dX2_hurt_20 : decode cX2_hurt 20 = .ok (.aload_n 0, 1) := by decide +kernel
theorem dX2_hurt_21 : decode cX2_hurt 21 = .ok (.iload_n 1, 1) := by decide +kernel
theorem dX2_hurt_22 : decode cX2_hurt 22 = .ok (.putfield 25, 3) := by decide +kernel
theorem dX2_hurt_25 : decode cX2_hurt 25 = .ok (.aload_n 0, 1) := by decide +kernel
theorem dX2_hurt_26 : decode cX2_hurt 26 = .ok (.iconst 0, 1) := by decide +kernel
theorem dX2_hurt_27 : decode cX2_hurt 27 = .ok (.putfield 28, 3) := by decide +kernel
theorem dX2_hurt_30 : decode cX2_hurt 30 = .ok (.return_, 1) := by decide +kernel
theorem dX2_newLast_0 : decode cX2_newLast 0 = .ok (.aload_n 0, 1) := by decide +kernel
theorem dX2_newLast_1 : decode cX2_newLast 1 = .ok (.getfield 28, 3) := by decide +kernel
theorem dX2_newLast_4 : decode cX2_newLast 4 = .ok (.aload_n 0, 1) := by decide +kernel
theorem dX2_newLast_5 : decode cX2_newLast 5 = .ok (.getfield 11, 3) := by decide +kernel
theorem dX2_newLast_8 : decode cX2_newLast 8 = .ok (.arraylength, 1) := by decide +kernel
theorem dX2_newLast_9 : decode cX2_newLast 9 = .ok (.if_icmp .lt 5, 3) := by decide +kernel
theorem dX2_newLast_12 : decode cX2_newLast 12 = .ok (.aconst_null, 1) := by decide +kernel
theorem dX2_newLast_13 : decode cX2_newLast 13 = .ok (.areturn, 1) := by decide +kernel
theorem dX2_newLast_14 : decode cX2_newLast 14 = .ok (.aload_n 0, 1) := by decide +kernel
theorem dX2_newLast_15 : decode cX2_newLast 15 = .ok (.dup, 1) := by decide +kernel
theorem dX2_newLast_16 : decode cX2_newLast 16 = .ok (.getfield 28, 3) := by decide +kernel
theorem dX2_newLast_19 : decode cX2_newLast 19 = .ok (.iconst 1, 1) := by decide +kernel
theorem dX2_newLast_20 : decode cX2_newLast 20 = .ok (.iadd, 1) := by decide +kernel
theorem dX2_newLast_21 : decode cX2_newLast 21 = .ok (.putfield 28, 3) := by decide +kernel
theorem dX2_newLast_24 : decode cX2_newLast 24 = .ok (.aload_n 0, 1) := by decide +kernel
theorem dX2_newLast_25 : decode cX2_newLast 25 = .ok (.aload_n 0, 1) := by decide +kernel
theorem dX2_newLast_26 : decode cX2_newLast 26 = .ok (.getfield 28, 3) := by decide +kernel
theorem dX2_newLast_29 : decode cX2_newLast 29 = .ok (.iconst 1, 1) := by decide +kernel
theorem dX2_newLast_30 : decode cX2_newLast 30 = .ok (.isub, 1) := by decide +kernel
theorem dX2_newLast_31 : decode cX2_newLast 31 = .ok (.invokevirtual 31, 3) := by decide +kernel
theorem dX2_newLast_34 : decode cX2_newLast 34 = .ok (.areturn, 1) := by decide +kernel
theorem dX2_remove_0 : decode cX2_remove 0 = .ok (.aload_n 0, 1) := by decide +kernel
theorem dX2_remove_1 : decode cX2_remove 1 = .ok (.getfield 28, 3) := by decide +kernel
theorem dX2_remove_4 : decode cX2_remove 4 = .ok (.iconst 1, 1) := by decide +kernel
theorem dX2_remove_5 : decode cX2_remove 5 = .ok (.isub, 1) := by decide +kernel
theorem dX2_remove_6 : decode cX2_remove 6 = .ok (.istore_n 2, 1) := by decide +kernel
theorem dX2_remove_7 : decode cX2_remove 7 = .ok (.iload_n 1, 1) := by decide +kernel
theorem dX2_remove_8 : decode cX2_remove 8 = .ok (.ifCond .lt 17, 3) := by decide +kernel
theorem dX2_remove_11 : decode cX2_remove 11 = .ok (.iload_n 1, 1) := by decide +kernel
theorem dX2_remove_12 : decode cX2_remove 12 = .ok (.iload_n 2, 1) := by decide +kernel
theorem dX2_remove_13 : decode cX2_remove 13 = .ok (.if_icmp .gt 12, 3) := by decide +kernel
theorem dX2_remove_16 : decode cX2_remove 16 = .ok (.iload_n 2, 1) := by decide +kernel
theorem dX2_remove_17 : decode cX2_remove 17 = .ok (.aload_n 0, 1) := by decide +kernel
theorem dX2_remove_18 : decode cX2_remove 18 = .ok (.getfield 11, 3) := by decide +kernel
theorem dX2_remove_21 : decode cX2_remove 21 = .ok (.arraylength, 1) := by decide +kernel
theorem dX2_remove_22 : decode cX2_remove 22 = .ok (.if_icmp .lt 4, 3) := by decide +kernel
theorem dX2_remove_25 : decode cX2_remove 25 = .ok (.return_, 1) := by decide +kernel
theorem dX2_remove_26 : decode cX2_remove 26 = .ok (.aload_n 0, 1) := by decide +kernel
theorem dX2_remove_27 : decode cX2_remove 27 = .ok (.getfield 11, 3) := by decide +kernel
theorem dX2_remove_30 : decode cX2_remove 30 = .ok (.iload_n 1, 1) := by decide +kernel
theorem dX2_remove_31 : decode cX2_remove 31 = .ok (.aaload, 1) := by decide +kernel
theorem dX2_remove_32 : decode cX2_remove 32 = .ok (.astore_n 3, 1) := by decide +kernel
theorem dX2_remove_33 : decode cX2_remove 33 = .ok (.iload_n 1, 1) := by decide +kernel
theorem dX2_remove_34 : decode cX2_remove 34 = .ok (.istore 4, 2) := by decide +kernel
theorem dX2_remove_36 : decode cX2_remove 36 = .ok (.iload 4, 2) := by decide +kernel
theorem dX2_remove_38 : decode cX2_remove 38 = .ok (.iload_n 2, 1) := by decide +kernel
theorem dX2_remove_39 : decode cX2_remove 39 = .ok (.if_icmp .ge 25, 3) := by decide +kernel
theorem dX2_remove_42 : decode cX2_remove 42 = .ok (.aload_n 0, 1) := by decide +kernel
theorem dX2_remove_43 : decode cX2_remove 43 = .ok (.getfield 11, 3) := by decide +kernel
theorem dX2_remove_46 : decode cX2_remove 46 = .ok (.iload 4, 2) := by decide +kernel
theorem dX2_remove_48 : decode cX2_remove 48 = .ok (.aload_n 0, 1) := by decide +kernel
theorem dX2_remove_49 : decode cX2_remove 49 = .ok (.getfield 11, 3) := by decide +kernel
theorem dX2_remove_52 : decode cX2_remove 52 = .ok (.iload 4, 2) := by decide +kernel
theorem dX2_remove_54 : decode cX2_remove 54 = .ok (.iconst 1, 1) := by decide +kernel
theorem dX2_remove_55 : decode cX2_remove 55 = .ok (.iadd, 1) := by decide +kernel
theorem dX2_remove_56 : decode cX2_remove 56 = .ok (.aaload, 1) := by decide +kernel
theorem dX2_remove_57 : decode cX2_remove 57 = .ok (.aastore, 1) := by decide +kernel
theorem dX2_remove_58 : decode cX2_remove 58 = .ok (.iinc 4 1, 3) := by decide +kernel
theorem dX2_remove_61 : decode cX2_remove 61 = .ok (.goto (-25), 3) := by decide +kernel
theorem dX2_remove_64 : decode cX2_remove 64 = .ok (.aload_n 0, 1) := by decide +kernel
theorem dX2_remove_65 : decode cX2_remove 65 = .ok (.getfield 11, 3) := by decide +kernel
theorem dX2_remove_68 : decode cX2_remove 68 = .ok (.iload_n 2, 1) := by decide +kernel
theorem dX2_remove_69 : decode cX2_remove 69 = .ok (.aload_n 3, 1) := by decide +kernel
theorem dX2_remove_70 : decode cX2_remove 70 = .ok (.aastore, 1) := by decide +kernel
theorem dX2_remove_71 : decode cX2_remove 71 = .ok (.aload_n 0, 1) := by decide +kernel
theorem dX2_remove_72 : decode cX2_remove 72 = .ok (.iload_n 2, 1) := by decide +kernel
theorem dX2_remove_73 : decode cX2_remove 73 = .ok (.putfield 28, 3) := by decide +kernel
theorem dX2_remove_76 : decode cX2_remove 76 = .ok (.return_, 1) := by decide +kernel
theorem dX2_copyFrom_0 : decode cX2_copyFrom 0 = .ok (.aload_n 0, 1) := by decide +kernel
theorem dX2_copyFrom_1 : decode cX2_copyFrom 1 = .ok (.aload_n 1, 1) := by decide +kernel
theorem dX2_copyFrom_2 : decode cX2_copyFrom 2 = .ok (.getfield 28, 3) := by decide +kernel
theorem dX2_copyFrom_5 : decode cX2_copyFrom 5 = .ok (.putfield 28, 3) := by decide +kernel
theorem dX2_copyFrom_8 : decode cX2_copyFrom 8 = .ok (.aload_n 0, 1) := by decide +kernel
theorem dX2_copyFrom_9 : decode cX2_copyFrom 9 = .ok (.aload_n 1, 1) := by decide +kernel
theorem dX2_copyFrom_10 : decode cX2_copyFrom 10 = .ok (.getfield 25, 3) := by decide +kernel
theorem dX2_copyFrom_13 : decode cX2_copyFrom 13 = .ok (.putfield 25, 3) := by decide +kernel
theorem dX2_copyFrom_16 : decode cX2_copyFrom 16 = .ok (.aload_n 0, 1) := by decide +kernel
theorem dX2_copyFrom_17 : decode cX2_copyFrom 17 = .ok (.aload_n 1, 1) := by decide +kernel
theorem dX2_copyFrom_18 : decode cX2_copyFrom 18 = .ok (.getfield 18, 3) := by decide +kernel
theorem dX2_copyFrom_21 : decode cX2_copyFrom 21 = .ok (.putfield 18, 3) := by decide +kernel
theorem dX2_copyFrom_24 : decode cX2_copyFrom 24 = .ok (.aload_n 0, 1) := by decide +kernel
theorem dX2_copyFrom_25 : decode cX2_copyFrom 25 = .ok (.aload_n 1, 1) := by decide +kernel
theorem dX2_copyFrom_26 : decode cX2_copyFrom 26 = .ok (.getfield 22, 3) := by decide +kernel
theorem dX2_copyFrom_29 : decode cX2_copyFrom 29 = .ok (.putfield 22, 3) := by decide +kernel
theorem dX2_copyFrom_32 : decode cX2_copyFrom 32 = .ok (.aload_n 0, 1) := by decide +kernel
theorem dX2_copyFrom_33 : decode cX2_copyFrom 33 = .ok (.aload_n 1, 1) := by decide +kernel
theorem dX2_copyFrom_34 : decode cX2_copyFrom 34 = .ok (.getfield 48, 3) := by decide +kernel
theorem dX2_copyFrom_37 : decode cX2_copyFrom 37 = .ok (.putfield 48, 3) := by decide +kernel
theorem dX2_copyFrom_40 : decode cX2_copyFrom 40 = .ok (.aload_n 0, 1) := by decide +kernel
theorem dX2_copyFrom_41 : decode cX2_copyFrom 41 = .ok (.aload_n 1, 1) := by decide +kernel
theorem dX2_copyFrom_42 : decode cX2_copyFrom 42 = .ok (.getfield 45, 3) := by decide +kernel
theorem dX2_copyFrom_45 : decode cX2_copyFrom 45 = .ok (.putfield 45, 3) := by decide +kernel
theorem dX2_copyFrom_48 : decode cX2_copyFrom 48 = .ok (.iconst 0, 1) := by decide +kernel
theorem dX2_copyFrom_49 : decode cX2_copyFrom 49 = .ok (.istore_n 2, 1) := by decide +kernel
theorem dX2_copyFrom_50 : decode cX2_copyFrom 50 = .ok (.iload_n 2, 1) := by decide +kernel
theorem dX2_copyFrom_51 : decode cX2_copyFrom 51 = .ok (.aload_n 0, 1) := by decide +kernel
theorem dX2_copyFrom_52 : decode cX2_copyFrom 52 = .ok (.getfield 28, 3) := by decide +kernel
theorem dX2_copyFrom_55 : decode cX2_copyFrom 55 = .ok (.if_icmp .ge 37, 3) := by decide +kernel
theorem dX2_copyFrom_58 : decode cX2_copyFrom 58 = .ok (.aload_n 0, 1) := by decide +kernel
theorem dX2_copyFrom_59 : decode cX2_copyFrom 59 = .ok (.iload_n 2, 1) := by decide +kernel
theorem dX2_copyFrom_60 : decode cX2_copyFrom 60 = .ok (.invokevirtual 31, 3) := by decide +kernel
theorem dX2_copyFrom_63 : decode cX2_copyFrom 63 = .ok (.astore_n 3, 1) := by decide +kernel
theorem dX2_copyFrom_64 : decode cX2_copyFrom 64 = .ok (.aload_n 1, 1) := by decide +kernel
theorem dX2_copyFrom_65 : decode cX2_copyFrom 65 = .ok (.iload_n 2, 1) := by decide +kernel
theorem dX2_copyFrom_66 : decode cX2_copyFrom 66 = .ok (.invokevirtual 31, 3) := by decide +kernel
theorem dX2_copyFrom_69 : decode cX2_copyFrom 69 = .ok (.astore 4, 2) := by decide +kernel
theorem dX2_copyFrom_71 : decode cX2_copyFrom 71 = .ok (.aload_n 3, 1) := by decide +kernel
theorem dX2_copyFrom_72 : decode cX2_copyFrom 72 = .ok (.ifnull 14, 3) := by decide +kernel
theorem dX2_copyFrom_75 : decode cX2_copyFrom 75 = .ok (.aload 4, 2) := by decide +kernel
theorem dX2_copyFrom_77 : decode cX2_copyFrom 77 = .ok (.ifnull 9, 3) := by decide +kernel
theorem dX2_copyFrom_80 : decode cX2_copyFrom 80 = .ok (.aload_n 3, 1) := by decide +kernel
theorem dX2_copyFrom_81 : decode cX2_copyFrom 81 = .ok (.aload 4, 2) := by decide +kernel
theorem dX2_copyFrom_83 : decode cX2_copyFrom 83 = .ok (.invokevirtual 51, 3) := by decide +kernel
theorem dX2_copyFrom_86 : decode cX2_copyFrom 86 = .ok (.iinc 2 1, 3) := by decide +kernel
theorem dX2_copyFrom_89 : decode cX2_copyFrom 89 = .ok (.goto (-39), 3) := by decide +kernel
theorem dX2_copyFrom_92 : decode cX2_copyFrom 92 = .ok (.return_, 1) := by decide +kernel
theorem dX3_init_0 : decode cX3_init 0 = .ok (.aload_n 0, 1) := by decide +kernel
theorem dX3_init_1 : decode cX3_init 1 = .ok (.invokespecial 3, 3) := by decide +kernel
theorem dX3_init_4 : decode cX3_init 4 = .ok (.aload_n 0, 1) := by decide +kernel
theorem dX3_init_5 : decode cX3_init 5 = .ok (.iconst 4, 1) := by decide +kernel
theorem dX3_init_6 : decode cX3_init 6 = .ok (.anewarray 9, 3) := by decide +kernel
theorem dX3_init_9 : decode cX3_init 9 = .ok (.putfield 11, 3) := by decide +kernel
theorem dX3_init_12 : decode cX3_init 12 = .ok (.iconst 0, 1) := by decide +kernel
theorem dX3_init_13 : decode cX3_init 13 = .ok (.istore_n 1, 1) := by decide +kernel
theorem dX3_init_14 : decode cX3_init 14 = .ok (.iload_n 1, 1) := by decide +kernel
theorem dX3_init_15 : decode cX3_init 15 = .ok (.aload_n 0, 1) := by decide +kernel
theorem dX3_init_16 : decode cX3_init 16 = .ok (.getfield 11, 3) := by decide +kernel
theorem dX3_init_19 : decode cX3_init 19 = .ok (.arraylength, 1) := by decide +kernel
theorem dX3_init_20 : decode cX3_init 20 = .ok (.if_icmp .ge 22, 3) := by decide +kernel
theorem dX3_init_23 : decode cX3_init 23 = .ok (.aload_n 0, 1) := by decide +kernel
theorem dX3_init_24 : decode cX3_init 24 = .ok (.getfield 11, 3) := by decide +kernel
theorem dX3_init_27 : decode cX3_init 27 = .ok (.iload_n 1, 1) := by decide +kernel
theorem dX3_init_28 : decode cX3_init 28 = .ok (.new 9, 3) := by decide +kernel
theorem dX3_init_31 : decode cX3_init 31 = .ok (.dup, 1) := by decide +kernel
theorem dX3_init_32 : decode cX3_init 32 = .ok (.invokespecial 17, 3) := by decide +kernel
theorem dX3_init_35 : decode cX3_init 35 = .ok (.aastore, 1) := by decide +kernel
theorem dX3_init_36 : decode cX3_init 36 = .ok (.iinc 1 1, 3) := by decide +kernel
theorem dX3_init_39 : decode cX3_init 39 = .ok (.goto (-25), 3) := by decide +kernel
theorem dX3_init_42 : decode cX3_init 42 = .ok (.aload_n 0, 1) := by decide +kernel
theorem dX3_init_43 : decode cX3_init 43 = .ok (.bipush 10, 2) := by decide +kernel
theorem dX3_init_45 : decode cX3_init 45 = .ok (.anewarray 18, 3) := by decide +kernel
theorem dX3_init_48 : decode cX3_init 48 = .ok (.putfield 20, 3) := by decide +kernel
theorem dX3_init_51 : decode cX3_init 51 = .ok (.iconst 0, 1) := by decide +kernel
theorem dX3_init_52 : decode cX3_init 52 = .ok (.istore_n 1, 1) := by decide +kernel
theorem dX3_init_53 : decode cX3_init 53 = .ok (.iload_n 1, 1) := by decide +kernel
theorem dX3_init_54 : decode cX3_init 54 = .ok (.aload_n 0, 1) := by decide +kernel
theorem dX3_init_55 : decode cX3_init 55 = .ok (.getfield 20, 3) := by decide +kernel
theorem dX3_init_58 : decode cX3_init 58 = .ok (.arraylength, 1) := by decide +kernel
theorem dX3_init_59 : decode cX3_init 59 = .ok (.if_icmp .ge 22, 3) := by decide +kernel
theorem dX3_init_62 : decode cX3_init 62 = .ok (.aload_n 0, 1) := by decide +kernel
theorem dX3_init_63 : decode cX3_init 63 = .ok (.getfield 20, 3) := by decide +kernel
theorem dX3_init_66 : decode cX3_init 66 = .ok (.iload_n 1, 1) := by decide +kernel
theorem dX3_init_67 : decode cX3_init 67 = .ok (.new 18, 3) := by decide +kernel
theorem dX3_init_70 : decode cX3_init 70 = .ok (.dup, 1) := by decide +kernel
theorem dX3_init_71 : decode cX3_init 71 = .ok (.invokespecial 24, 3) := by decide +kernel
theorem dX3_init_74 : decode cX3_init 74 = .ok (.aastore, 1) := by decide +kernel
theorem dX3_init_75 : decode cX3_init 75 = .ok (.iinc 1 1, 3) := by decide +kernel
theorem dX3_init_78 : decode cX3_init 78 = .ok (.goto (-25), 3) := by decide +kernel
theorem dX3_init_81 : decode cX3_init 81 = .ok (.aload_n 0, 1) := by decide +kernel
theorem dX3_init_82 : decode cX3_init 82 = .ok (.iconst 2, 1) := by decide +kernel
theorem dX3_init_83 : decode cX3_init 83 = .ok (.putfield 25, 3) := by decide +kernel
theorem dX3_init_86 : decode cX3_init 86 = .ok (.aload_n 0, 1) := by decide +kernel
theorem dX3_init_87 : decode cX3_init 87 = .ok (.bipush 20, 2) := by decide +kernel
theorem dX3_init_89 : decode cX3_init 89 = .ok (.putfield 29, 3) := by decide +kernel
theorem dX3_init_92 : decode cX3_init 92 = .ok (.aload_n 0, 1) := by decide +kernel
theorem dX3_init_93 : decode cX3_init 93 = .ok (.iconst 2, 1) := by decide +kernel
theorem dX3_init_94 : decode cX3_init 94 = .ok (.putfield 32, 3) := by decide +kernel
theorem dX3_init_97 : decode cX3_init 97 = .ok (.return_, 1) := by decide +kernel
theorem dX3_copyFrom_0 : decode cX3_copyFrom 0 = .ok (.iconst 0, 1) := by decide +kernel
theorem dX3_copyFrom_1 : decode cX3_copyFrom 1 = .ok (.istore_n 2, 1) := by decide +kernel
theorem dX3_copyFrom_2 : decode cX3_copyFrom 2 = .ok (.iload_n 2, 1) := by decide +kernel
theorem dX3_copyFrom_3 : decode cX3_copyFrom 3 = .ok (.iconst 4, 1) := by decide +kernel
theorem dX3_copyFrom_4 : decode cX3_copyFrom 4 = .ok (.if_icmp .ge 37, 3) := by decide +kernel
theorem dX3_copyFrom_7 : decode cX3_copyFrom 7 = .ok (.aload_n 0, 1) := by decide +kernel
theorem dX3_copyFrom_8 : decode cX3_copyFrom 8 = .ok (.iload_n 2, 1) := by decide +kernel
theorem dX3_copyFrom_9 : decode cX3_copyFrom 9 = .ok (.invokevirtual 35, 3) := by decide +kernel
theorem dX3_copyFrom_12 : decode cX3_copyFrom 12 = .ok (.astore_n 3, 1) := by decide +kernel
theorem dX3_copyFrom_13 : decode cX3_copyFrom 13 = .ok (.aload_n 1, 1) := by decide +kernel
theorem dX3_copyFrom_14 : decode cX3_copyFrom 14 = .ok (.iload_n 2, 1) := by decide +kernel
theorem dX3_copyFrom_15 : decode cX3_copyFrom 15 = .ok (.invokevirtual 35, 3) := by decide +kernel
theorem dX3_copyFrom_18 : decode cX3_copyFrom 18 = .ok (.astore 4, 2) := by decide +kernel
theorem dX3_copyFrom_20 : decode cX3_copyFrom 20 = .ok (.aload_n 3, 1) := by decide +kernel
theorem dX3_copyFrom_21 : decode cX3_copyFrom 21 = .ok (.ifnull 14, 3) := by decide +kernel
theorem dX3_copyFrom_24 : decode cX3_copyFrom 24 = .ok (.aload 4, 2) := by decide +kernel
theorem dX3_copyFrom_26 : decode cX3_copyFrom 26 = .ok (.ifnull 9, 3) := by decide +kernel
theorem dX3_copyFrom_29 : decode cX3_copyFrom 29 = .ok (.aload_n 3, 1) := by decide +kernel
theorem dX3_copyFrom_30 : decode cX3_copyFrom 30 = .ok (.aload 4, 2) := by decide +kernel
theorem dX3_copyFrom_32 : decode cX3_copyFrom 32 = .ok (.invokevirtual 39, 3) := by decide +kernel
theorem dX3_copyFrom_35 : decode cX3_copyFrom 35 = .ok (.iinc 2 1, 3) := by decide +kernel
theorem dX3_copyFrom_38 : decode cX3_copyFrom 38 = .ok (.goto (-36), 3) := by decide +kernel
theorem dX3_copyFrom_41 : decode cX3_copyFrom 41 = .ok (.iconst 0, 1) := by decide +kernel
theorem dX3_copyFrom_42 : decode cX3_copyFrom 42 = .ok (.istore_n 2, 1) := by decide +kernel
theorem dX3_copyFrom_43 : decode cX3_copyFrom 43 = .ok (.iload_n 2, 1) := by decide +kernel
theorem dX3_copyFrom_44 : decode cX3_copyFrom 44 = .ok (.bipush 10, 2) := by decide +kernel
theorem dX3_copyFrom_46 : decode cX3_copyFrom 46 = .ok (.if_icmp .ge 37, 3) := by decide +kernel
theorem dX3_copyFrom_49 : decode cX3_copyFrom 49 = .ok (.aload_n 0, 1) := by decide +kernel
theorem dX3_copyFrom_50 : decode cX3_copyFrom 50 = .ok (.iload_n 2, 1) := by decide +kernel
theorem dX3_copyFrom_51 : decode cX3_copyFrom 51 = .ok (.invokevirtual 43, 3) := by decide +kernel
theorem dX3_copyFrom_54 : decode cX3_copyFrom 54 = .ok (.astore_n 3, 1) := by decide +kernel
theorem dX3_copyFrom_55 : decode cX3_copyFrom 55 = .ok (.aload_n 1, 1) := by decide +kernel
theorem dX3_copyFrom_56 : decode cX3_copyFrom 56 = .ok (.iload_n 2, 1) := by decide +kernel
theorem dX3_copyFrom_57 : decode cX3_copyFrom 57 = .ok (.invokevirtual 43, 3) := by decide +kernel
theorem dX3_copyFrom_60 : decode cX3_copyFrom 60 = .ok (.astore 4, 2) := by decide +kernel
theorem dX3_copyFrom_62 : decode cX3_copyFrom 62 = .ok (.aload_n 3, 1) := by decide +kernel
theorem dX3_copyFrom_63 : decode cX3_copyFrom 63 = .ok (.ifnull 14, 3) := by decide +kernel
theorem dX3_copyFrom_66 : decode cX3_copyFrom 66 = .ok (.aload 4, 2) := by decide +kernel
theorem dX3_copyFrom_68 : decode cX3_copyFrom 68 = .ok (.ifnull 9, 3) := by decide +kernel
theorem dX3_copyFrom_71 : decode cX3_copyFrom 71 = .ok (.aload_n 3, 1) := by decide +kernel
theorem dX3_copyFrom_72 : decode cX3_copyFrom 72 = .ok (.aload 4, 2) := by decide +kernel
theorem dX3_copyFrom_74 : decode cX3_copyFrom 74 = .ok (.invokevirtual 47, 3) := by decide +kernel
theorem dX3_copyFrom_77 : decode cX3_copyFrom 77 = .ok (.iinc 2 1, 3) := by decide +kernel
theorem dX3_copyFrom_80 : decode cX3_copyFrom 80 = .ok (.goto (-37), 3) := by decide +kernel
theorem dX3_copyFrom_83 : decode cX3_copyFrom 83 = .ok (.aload_n 0, 1) := by decide +kernel
theorem dX3_copyFrom_84 : decode cX3_copyFrom 84 = .ok (.aload_n 1, 1) := by decide +kernel
theorem dX3_copyFrom_85 : decode cX3_copyFrom 85 = .ok (.getfield 25, 3) := by decide +kernel
theorem dX3_copyFrom_88 : decode cX3_copyFrom 88 = .ok (.putfield 25, 3) := by decide +kernel
theorem dX3_copyFrom_91 : decode cX3_copyFrom 91 = .ok (.aload_n 0, 1) := by decide +kernel
theorem dX3_copyFrom_92 : decode cX3_copyFrom 92 = .ok (.aload_n 1, 1) := by decide +kernel
theorem dX3_copyFrom_93 : decode cX3_copyFrom 93 = .ok (.getfield 29, 3) := by decide +kernel
theorem dX3_copyFrom_96 : decode cX3_copyFrom 96 = .ok (.putfield 29, 3) := by decide +kernel
theorem dX3_copyFrom_99 : decode cX3_copyFrom 99 = .ok (.aload_n 0, 1) := by decide +kernel
theorem dX3_copyFrom_100 : decode cX3_copyFrom 100 = .ok (.aload_n 1, 1) := by decide +kernel
theorem dX3_copyFrom_101 : decode cX3_copyFrom 101 = .ok (.getfield 32, 3) := by decide +kernel
theorem dX3_copyFrom_104 : decode cX3_copyFrom 104 = .ok (.putfield 32, 3) := by decide +kernel
theorem dX3_copyFrom_107 : decode cX3_copyFrom 107 = .ok (.aload_n 0, 1) := by decide +kernel
theorem dX3_copyFrom_108 : decode cX3_copyFrom 108 = .ok (.aload_n 1, 1) := by decide +kernel
theorem dX3_copyFrom_109 : decode cX3_copyFrom 109 = .ok (.getfield 50, 3) := by decide +kernel
theorem dX3_copyFrom_112 : decode cX3_copyFrom 112 = .ok (.putfield 50, 3) := by decide +kernel
theorem dX3_copyFrom_115 : decode cX3_copyFrom 115 = .ok (.aload_n 0, 1) := by decide +kernel
theorem dX3_copyFrom_116 : decode cX3_copyFrom 116 = .ok (.aload_n 1, 1) := by decide +kernel
theorem dX3_copyFrom_117 : decode cX3_copyFrom 117 = .ok (.getfield 53, 3) := by decide +kernel
theorem dX3_copyFrom_120 : decode cX3_copyFrom 120 = .ok (.putfield 53, 3) := by decide +kernel
theorem dX3_copyFrom_123 : decode cX3_copyFrom 123 = .ok (.aload_n 0, 1) := by decide +kernel
theorem dX3_copyFrom_124 : decode cX3_copyFrom 124 = .ok (.aload_n 1, 1) := by decide +kernel
theorem dX3_copyFrom_125 : decode cX3_copyFrom 125 = .ok (.getfield 56, 3) := by decide +kernel
theorem dX3_copyFrom_128 : decode cX3_copyFrom 128 = .ok (.putfield 56, 3) := by decide +kernel
theorem dX3_copyFrom_131 : decode cX3_copyFrom 131 = .ok (.aload_n 0, 1) := by decide +kernel
theorem dX3_copyFrom_132 : decode cX3_copyFrom 132 = .ok (.aload_n 1, 1) := by decide +kernel
theorem dX3_copyFrom_133 : decode cX3_copyFrom 133 = .ok (.getfield 59, 3) := by decide +kernel
theorem dX3_copyFrom_136 : decode cX3_copyFrom 136 = .ok (.putfield 59, 3) := by decide +kernel
theorem dX3_copyFrom_139 : decode cX3_copyFrom 139 = .ok (.aload_n 0, 1) := by decide +kernel
theorem dX3_copyFrom_140 : decode cX3_copyFrom 140 = .ok (.aload_n 1, 1) := by decide +kernel
theorem dX3_copyFrom_141 : decode cX3_copyFrom 141 = .ok (.getfield 62, 3) := by decide +kernel
theorem dX3_copyFrom_144 : decode cX3_copyFrom 144 = .ok (.putfield 62, 3) := by decide +kernel
theorem dX3_copyFrom_147 : decode cX3_copyFrom 147 = .ok (.return_, 1) := by decide +kernel
theorem dX3_pieceOf_0 : decode cX3_pieceOf 0 = .ok (.iload_n 1, 1) := by decide +kernel
theorem dX3_pieceOf_1 : decode cX3_pieceOf 1 = .ok (.ifCond .lt 21, 3) := by decide +kernel
theorem dX3_pieceOf_4 : decode cX3_pieceOf 4 = .ok (.iload_n 1, 1) := by decide +kernel
theorem dX3_pieceOf_5 : decode cX3_pieceOf 5 = .ok (.aload_n 0, 1) := by decide +kernel
theorem dX3_pieceOf_6 : decode cX3_pieceOf 6 = .ok (.getfield 11, 3) := by decide +kernel
theorem dX3_pieceOf_9 : decode cX3_pieceOf 9 = .ok (.arraylength, 1) := by decide +kernel
theorem dX3_pieceOf_10 : decode cX3_pieceOf 10 = .ok (.if_icmp .ge 12, 3) := by decide +kernel
theorem dX3_pieceOf_13 : decode cX3_pieceOf 13 = .ok (.aload_n 0, 1) := by decide +kernel
theorem dX3_pieceOf_14 : decode cX3_pieceOf 14 = .ok (.getfield 11, 3) := by decide +kernel
theorem dX3_pieceOf_17 : decode cX3_pieceOf 17 = .ok (.iload_n 1, 1) := by decide +kernel
theorem dX3_pieceOf_18 : decode cX3_pieceOf 18 = .ok (.aaload, 1) := by decide +kernel
theorem dX3_pieceOf_19 : decode cX3_pieceOf 19 = .ok (.goto 4, 3) := by decide +kernel
theorem dX3_pieceOf_22 : decode cX3_pieceOf 22 = .ok (.aconst_null, 1) := by decide +kernel
theorem dX3_pieceOf_23 : decode cX3_pieceOf 23 = .ok (.areturn, 1) := by decide +kernel
theorem dX3_biteOf_0 : decode cX3_biteOf 0 = .ok (.aload_n 0, 1) := by decide +kernel
theorem dX3_biteOf_1 : decode cX3_biteOf 1 = .ok (.iload_n 1, 1) := by decide +kernel
theorem dX3_biteOf_2 : decode cX3_biteOf 2 = .ok (.invokevirtual 35, 3) := by decide +kernel
theorem dX3_biteOf_5 : decode cX3_biteOf 5 = .ok (.astore_n 3, 1) := by decide +kernel
theorem dX3_biteOf_6 : decode cX3_biteOf 6 = .ok (.aload_n 3, 1) := by decide +kernel
theorem dX3_biteOf_7 : decode cX3_biteOf 7 = .ok (.ifnonnull 7, 3) := by decide +kernel
theorem dX3_biteOf_10 : decode cX3_biteOf 10 = .ok (.aconst_null, 1) := by decide +kernel
theorem dX3_biteOf_11 : decode cX3_biteOf 11 = .ok (.goto 8, 3) := by decide +kernel
theorem dX3_biteOf_14 : decode cX3_biteOf 14 = .ok (.aload_n 3, 1) := by decide +kernel
theorem dX3_biteOf_15 : decode cX3_biteOf 15 = .ok (.iload_n 2, 1) := by decide +kernel
theorem dX3_biteOf_16 : decode cX3_biteOf 16 = .ok (.invokevirtual 65, 3) := by decide +kernel
theorem dX3_biteOf_19 : decode cX3_biteOf 19 = .ok (.areturn, 1) := by decide +kernel
theorem dX3_placeOfSnake_0 : decode cX3_placeOfSnake 0 = .ok (.iload_n 1, 1) := by decide +kernel
theorem dX3_placeOfSnake_1 : decode cX3_placeOfSnake 1 = .ok (.ifCond .lt 21, 3) := by decide +kernel
theorem dX3_placeOfSnake_4 : decode cX3_placeOfSnake 4 = .ok (.iload_n 1, 1) := by decide +kernel
theorem dX3_placeOfSnake_5 : decode cX3_placeOfSnake 5 = .ok (.aload_n 0, 1) := by decide +kernel
theorem dX3_placeOfSnake_6 : decode cX3_placeOfSnake 6 = .ok (.getfield 20, 3) := by decide +kernel
theorem dX3_placeOfSnake_9 : decode cX3_placeOfSnake 9 = .ok (.arraylength, 1) := by decide +kernel
theorem dX3_placeOfSnake_10 : decode cX3_placeOfSnake 10 = .ok (.if_icmp .ge 12, 3) := by decide +kernel
theorem dX3_placeOfSnake_13 : decode cX3_placeOfSnake 13 = .ok (.aload_n 0, 1) := by decide +kernel
theorem dX3_placeOfSnake_14 : decode cX3_placeOfSnake 14 = .ok (.getfield 20, 3) := by decide +kernel
theorem dX3_placeOfSnake_17 : decode cX3_placeOfSnake 17 = .ok (.iload_n 1, 1) := by decide +kernel
theorem dX3_placeOfSnake_18 : decode cX3_placeOfSnake 18 = .ok (.aaload, 1) := by decide +kernel
theorem dX3_placeOfSnake_19 : decode cX3_placeOfSnake 19 = .ok (.goto 4, 3) := by decide +kernel
theorem dX3_placeOfSnake_22 : decode cX3_placeOfSnake 22 = .ok (.aconst_null, 1) := by decide +kernel
theorem dX3_placeOfSnake_23 : decode cX3_placeOfSnake 23 = .ok (.areturn, 1) := by decide +kernel
theorem dX3_snakeNumbered_0 : decode cX3_snakeNumbered 0 = .ok (.aload_n 0, 1) := by decide +kernel
theorem dX3_snakeNumbered_1 : decode cX3_snakeNumbered 1 = .ok (.iload_n 1, 1) := by decide +kernel
theorem dX3_snakeNumbered_2 : decode cX3_snakeNumbered 2 = .ok (.invokevirtual 43, 3) := by decide +kernel
theorem dX3_snakeNumbered_5 : decode cX3_snakeNumbered 5 = .ok (.astore_n 2, 1) := by decide +kernel
theorem dX3_snakeNumbered_6 : decode cX3_snakeNumbered 6 = .ok (.aload_n 2, 1) := by decide +kernel
theorem dX3_snakeNumbered_7 : decode cX3_snakeNumbered 7 = .ok (.ifnull 14, 3) := by decide +kernel
theorem dX3_snakeNumbered_10 : decode cX3_snakeNumbered 10 = .ok (.aload_n 2, 1) := by decide +kernel
theorem dX3_snakeNumbered_11 : decode cX3_snakeNumbered 11 = .ok (.invokevirtual 69, 3) := by decide +kernel
theorem dX3_snakeNumbered_14 : decode cX3_snakeNumbered 14 = .ok (.ifCond .eq 7, 3) := by decide +kernel
theorem dX3_snakeNumbered_17 : decode cX3_snakeNumbered 17 = .ok (.aload_n 2, 1) := by decide +kernel
theorem dX3_snakeNumbered_18 : decode cX3_snakeNumbered 18 = .ok (.goto 4, 3) := by decide +kernel
theorem dX3_snakeNumbered_21 : decode cX3_snakeNumbered 21 = .ok (.aconst_null, 1) := by decide +kernel
theorem dX3_snakeNumbered_22 : decode cX3_snakeNumbered 22 = .ok (.areturn, 1) := by decide +kernel
theorem dX3_freeNumber_0 : decode cX3_freeNumber 0 = .ok (.iconst 0, 1) := by decide +kernel
theorem dX3_freeNumber_1 : decode cX3_freeNumber 1 = .ok (.istore_n 1, 1) := by decide +kernel
theorem dX3_freeNumber_2 : decode cX3_freeNumber 2 = .ok (.iload_n 1, 1) := by decide +kernel
theorem dX3_freeNumber_3 : decode cX3_freeNumber 3 = .ok (.bipush 10, 2) := by decide +kernel
theorem dX3_freeNumber_5 : decode cX3_freeNumber 5 = .ok (.if_icmp .ge 19, 3) := by decide +kernel
theorem dX3_freeNumber_8 : decode cX3_freeNumber 8 = .ok (.aload_n 0, 1) := by decide +kernel
theorem dX3_freeNumber_9 : decode cX3_freeNumber 9 = .ok (.iload_n 1, 1) := by decide +kernel
theorem dX3_freeNumber_10 : decode cX3_freeNumber 10 = .ok (.invokevirtual 73, 3) := by decide +kernel
theorem dX3_freeNumber_13 : decode cX3_freeNumber 13 = .ok (.ifnonnull 5, 3) := by decide +kernel
theorem dX3_freeNumber_16 : decode cX3_freeNumber 16 = .ok (.iload_n 1, 1) := by decide +kernel
theorem dX3_freeNumber_17 : decode cX3_freeNumber 17 = .ok (.ireturn, 1) := by decide +kernel
theorem dX3_freeNumber_18 : decode cX3_freeNumber 18 = .ok (.iinc 1 1, 3) := by decide +kernel
theorem dX3_freeNumber_21 : decode cX3_freeNumber 21 = .ok (.goto (-19), 3) := by decide +kernel
theorem dX3_freeNumber_24 : decode cX3_freeNumber 24 = .ok (.bipush (-5), 2) := by decide +kernel
theorem dX3_freeNumber_26 : decode cX3_freeNumber 26 = .ok (.ireturn, 1) := by decide +kernel
theorem dX3_numberOfHeadOn_0 : decode cX3_numberOfHeadOn 0 = .ok (.iconst 0, 1) := by decide +kernel
theorem dX3_numberOfHeadOn_1 : decode cX3_numberOfHeadOn 1 = .ok (.istore_n 2, 1) := by decide +kernel
theorem dX3_numberOfHeadOn_2 : decode cX3_numberOfHeadOn 2 = .ok (.iload_n 2, 1) := by decide +kernel
theorem dX3_numberOfHeadOn_3 : decode cX3_numberOfHeadOn 3 = .ok (.bipush 10, 2) := by decide +kernel
theorem dX3_numberOfHeadOn_5 : decode cX3_numberOfHeadOn 5 = .ok (.if_icmp .ge 29, 3) := by decide +kernel
theorem dX3_numberOfHeadOn_8 : decode cX3_numberOfHeadOn 8 = .ok (.aload_n 0, 1) := by decide +kernel
theorem dX3_numberOfHeadOn_9 : decode cX3_numberOfHeadOn 9 = .ok (.iload_n 2, 1) := by decide +kernel
theorem dX3_numberOfHeadOn_10 : decode cX3_numberOfHeadOn 10 = .ok (.invokevirtual 73, 3) := by decide +kernel
theorem dX3_numberOfHeadOn_13 : decode cX3_numberOfHeadOn 13 = .ok (.astore_n 3, 1) := by decide +kernel
theorem dX3_numberOfHeadOn_14 : decode cX3_numberOfHeadOn 14 = .ok (.aload_n 3, 1) := by decide +kernel
theorem dX3_numberOfHeadOn_15 : decode cX3_numberOfHeadOn 15 = .ok (.ifnull 13, 3) := by decide +kernel
theorem dX3_numberOfHeadOn_18 : decode cX3_numberOfHeadOn 18 = .ok (.aload_n 3, 1) := by decide +kernel
theorem dX3_numberOfHeadOn_19 : decode cX3_numberOfHeadOn 19 = .ok (.getfield 76, 3) := by decide +kernel
theorem dX3_numberOfHeadOn_22 : decode cX3_numberOfHeadOn 22 = .ok (.iload_n 1, 1) := by decide +kernel
theorem dX3_numberOfHeadOn_23 : decode cX3_numberOfHeadOn 23 = .ok (.if_icmp .ne 5, 3) := by decide +kernel
theorem dX3_numberOfHeadOn_26 : decode cX3_numberOfHeadOn 26 = .ok (.iload_n 2, 1) := by decide +kernel
theorem dX3_numberOfHeadOn_27 : decode cX3_numberOfHeadOn 27 = .ok (.ireturn, 1) := by decide +kernel
theorem dX3_numberOfHeadOn_28 : decode cX3_numberOfHeadOn 28 = .ok (.iinc 2 1, 3) := by decide +kernel
theorem dX3_numberOfHeadOn_31 : decode cX3_numberOfHeadOn 31 = .ok (.goto (-29), 3) := by decide +kernel
theorem dX3_numberOfHeadOn_34 : decode cX3_numberOfHeadOn 34 = .ok (.bipush (-5), 2) := by decide +kernel
theorem dX3_numberOfHeadOn_36 : decode cX3_numberOfHeadOn 36 = .ok (.ireturn, 1) := by decide +kernel
theorem dX3_tailsOn_0 : decode cX3_tailsOn 0 = .ok (.iconst 0, 1) := by decide +kernel
theorem dX3_tailsOn_1 : decode cX3_tailsOn 1 = .ok (.istore_n 2, 1) := by decide +kernel
theorem dX3_tailsOn_2 : decode cX3_tailsOn 2 = .ok (.iconst 0, 1) := by decide +kernel
theorem dX3_tailsOn_3 : decode cX3_tailsOn 3 = .ok (.istore_n 3, 1) := by decide +kernel
theorem dX3_tailsOn_4 : decode cX3_tailsOn 4 = .ok (.iload_n 3, 1) := by decide +kernel
theorem dX3_tailsOn_5 : decode cX3_tailsOn 5 = .ok (.bipush 10, 2) := by decide +kernel
theorem dX3_tailsOn_7 : decode cX3_tailsOn 7 = .ok (.if_icmp .ge 33, 3) := by decide +kernel
theorem dX3_tailsOn_10 : decode cX3_tailsOn 10 = .ok (.aload_n 0, 1) := by decide +kernel
theorem dX3_tailsOn_11 : decode cX3_tailsOn 11 = .ok (.iload_n 3, 1) := by decide +kernel
theorem dX3_tailsOn_12 : decode cX3_tailsOn 12 = .ok (.invokevirtual 73, 3) := by decide +kernel
theorem dX3_tailsOn_15 : decode cX3_tailsOn 15 = .ok (.astore 4, 2) := by decide +kernel
theorem dX3_tailsOn_17 : decode cX3_tailsOn 17 = .ok (.aload 4, 2) := by decide +kernel
theorem dX3_tailsOn_19 : decode cX3_tailsOn 19 = .ok (.ifnull 15, 3) := by decide +kernel
theorem dX3_tailsOn_22 : decode cX3_tailsOn 22 = .ok (.aload 4, 2) := by decide +kernel
theorem dX3_tailsOn_24 : decode cX3_tailsOn 24 = .ok (.getfield 79, 3) := by decide +kernel
theorem dX3_tailsOn_27 : decode cX3_tailsOn 27 = .ok (.iload_n 1, 1) := by decide +kernel
theorem dX3_tailsOn_28 : decode cX3_tailsOn 28 = .ok (.if_icmp .ne 6, 3) := by decide +kernel
theorem dX3_tailsOn_31 : decode cX3_tailsOn 31 = .ok (.iinc 2 1, 3) := by decide +kernel
theorem dX3_tailsOn_34 : decode cX3_tailsOn 34 = .ok (.iinc 3 1, 3) := by decide +kernel
theorem dX3_tailsOn_37 : decode cX3_tailsOn 37 = .ok (.goto (-33), 3) := by decide +kernel
theorem dX3_tailsOn_40 : decode cX3_tailsOn 40 = .ok (.iload_n 2, 1) := by decide +kernel
theorem dX3_tailsOn_41 : decode cX3_tailsOn 41 = .ok (.ireturn, 1) := by decide +kernel
theorem dX3_snakesThere_0 : decode cX3_snakesThere 0 = .ok (.iconst 0, 1) := by decide +kernel
theorem dX3_snakesThere_1 : decode cX3_snakesThere 1 = .ok (.istore_n 1, 1) := by decide +kernel
theorem dX3_snakesThere_2 : decode cX3_snakesThere 2 = .ok (.iconst 0, 1) := by decide +kernel
theorem dX3_snakesThere_3 : decode cX3_snakesThere 3 = .ok (.istore_n 2, 1) := by decide +kernel
theorem dX3_snakesThere_4 : decode cX3_snakesThere 4 = .ok (.iload_n 2, 1) := by decide +kernel
theorem dX3_snakesThere_5 : decode cX3_snakesThere 5 = .ok (.bipush 10, 2) := by decide +kernel
theorem dX3_snakesThere_7 : decode cX3_snakesThere 7 = .ok (.if_icmp .ge 25, 3) := by decide +kernel
theorem dX3_snakesThere_10 : decode cX3_snakesThere 10 = .ok (.iload_n 1, 1) := by decide +kernel
theorem dX3_snakesThere_11 : decode cX3_snakesThere 11 = .ok (.aload_n 0, 1) := by decide +kernel
theorem dX3_snakesThere_12 : decode cX3_snakesThere 12 = .ok (.iload_n 2, 1) := by decide +kernel
theorem dX3_snakesThere_13 : decode cX3_snakesThere 13 = .ok (.invokevirtual 73, 3) := by decide +kernel
theorem dX3_snakesThere_16 : decode cX3_snakesThere 16 = .ok (.ifnonnull 7, 3) := by decide +kernel
theorem dX3_snakesThere_19 : decode cX3_snakesThere 19 = .ok (.iconst 0, 1) := by decide +kernel
theorem dX3_snakesThere_20 : decode cX3_snakesThere 20 = .ok (.goto 4, 3) := by decide +kernel
theorem dX3_snakesThere_23 : decode cX3_snakesThere 23 = .ok (.iconst 1, 1) := by decide +kernel
theorem dX3_snakesThere_24 : decode cX3_snakesThere 24 = .ok (.iadd, 1) := by decide +kernel
theorem dX3_snakesThere_25 : decode cX3_snakesThere 25 = .ok (.istore_n 1, 1) := by decide +kernel
theorem dX3_snakesThere_26 : decode cX3_snakesThere 26 = .ok (.iinc 2 1, 3) := by decide +kernel
theorem dX3_snakesThere_29 : decode cX3_snakesThere 29 = .ok (.goto (-25), 3) := by decide +kernel
theorem dX3_snakesThere_32 : decode cX3_snakesThere 32 = .ok (.iload_n 1, 1) := by decide +kernel
theorem dX3_snakesThere_33 : decode cX3_snakesThere 33 = .ok (.ireturn, 1) := by decide +kernel
theorem dX3_piecesOn_0 : decode cX3_piecesOn 0 = .ok (.iconst 0, 1) := by decide +kernel
theorem dX3_piecesOn_1 : decode cX3_piecesOn 1 = .ok (.istore_n 2, 1) := by decide +kernel
theorem dX3_piecesOn_2 : decode cX3_piecesOn 2 = .ok (.iconst 0, 1) := by decide +kernel
theorem dX3_piecesOn_3 : decode cX3_piecesOn 3 = .ok (.istore_n 3, 1) := by decide +kernel
theorem dX3_piecesOn_4 : decode cX3_piecesOn 4 = .ok (.iload_n 3, 1) := by decide +kernel
theorem dX3_piecesOn_5 : decode cX3_piecesOn 5 = .ok (.iconst 4, 1) := by decide +kernel
theorem dX3_piecesOn_6 : decode cX3_piecesOn 6 = .ok (.if_icmp .ge 36, 3) := by decide +kernel
theorem dX3_piecesOn_9 : decode cX3_piecesOn 9 = .ok (.aload_n 0, 1) := by decide +kernel
theorem dX3_piecesOn_10 : decode cX3_piecesOn 10 = .ok (.iload_n 3, 1) := by decide +kernel
theorem dX3_piecesOn_11 : decode cX3_piecesOn 11 = .ok (.invokevirtual 35, 3) := by decide +kernel
theorem dX3_piecesOn_14 : decode cX3_piecesOn 14 = .ok (.astore 4, 2) := by decide +kernel
theorem dX3_piecesOn_16 : decode cX3_piecesOn 16 = .ok (.aload 4, 2) := by decide +kernel
theorem dX3_piecesOn_18 : decode cX3_piecesOn 18 = .ok (.ifnull 18, 3) := by decide +kernel
theorem dX3_piecesOn_21 : decode cX3_piecesOn 21 = .ok (.aload 4, 2) := by decide +kernel
theorem dX3_piecesOn_23 : decode cX3_piecesOn 23 = .ok (.getfield 82, 3) := by decide +kernel
theorem dX3_piecesOn_26 : decode cX3_piecesOn 26 = .ok (.iload_n 1, 1) := by decide +kernel
theorem dX3_piecesOn_27 : decode cX3_piecesOn 27 = .ok (.if_icmp .ne 9, 3) := by decide +kernel
theorem dX3_piecesOn_30 : decode cX3_piecesOn 30 = .ok (.iload_n 2, 1) := by decide +kernel
theorem dX3_piecesOn_31 : decode cX3_piecesOn 31 = .ok (.iconst 1, 1) := by decide +kernel
theorem dX3_piecesOn_32 : decode cX3_piecesOn 32 = .ok (.iload_n 3, 1) := by decide +kernel
theorem dX3_piecesOn_33 : decode cX3_piecesOn 33 = .ok (.ishl, 1) := by decide +kernel
theorem dX3_piecesOn_34 : decode cX3_piecesOn 34 = .ok (.ior, 1) := by decide +kernel
theorem dX3_piecesOn_35 : decode cX3_piecesOn 35 = .ok (.istore_n 2, 1) := by decide +kernel
theorem dX3_piecesOn_36 : decode cX3_piecesOn 36 = .ok (.iinc 3 1, 3) := by decide +kernel
theorem dX3_piecesOn_39 : decode cX3_piecesOn 39 = .ok (.goto (-35), 3) := by decide +kernel
theorem dX3_piecesOn_42 : decode cX3_piecesOn 42 = .ok (.iload_n 2, 1) := by decide +kernel
theorem dX3_piecesOn_43 : decode cX3_piecesOn 43 = .ok (.ireturn, 1) := by decide +kernel
theorem dX3_isInRace_0 : decode cX3_isInRace 0 = .ok (.aload_n 0, 1) := by decide +kernel
theorem dX3_isInRace_1 : decode cX3_isInRace 1 = .ok (.iload_n 1, 1) := by decide +kernel
theorem dX3_isInRace_2 : decode cX3_isInRace 2 = .ok (.invokevirtual 35, 3) := by decide +kernel
theorem dX3_isInRace_5 : decode cX3_isInRace 5 = .ok (.astore_n 2, 1) := by decide +kernel
theorem dX3_isInRace_6 : decode cX3_isInRace 6 = .ok (.aload_n 2, 1) := by decide +kernel
theorem dX3_isInRace_7 : decode cX3_isInRace 7 = .ok (.ifnull 14, 3) := by decide +kernel
theorem dX3_isInRace_10 : decode cX3_isInRace 10 = .ok (.aload_n 2, 1) := by decide +kernel
theorem dX3_isInRace_11 : decode cX3_isInRace 11 = .ok (.invokevirtual 85, 3) := by decide +kernel
theorem dX3_isInRace_14 : decode cX3_isInRace 14 = .ok (.ifCond .eq 7, 3) := by decide +kernel
theorem dX3_isInRace_17 : decode cX3_isInRace 17 = .ok (.iconst 1, 1) := by decide +kernel
theorem dX3_isInRace_18 : decode cX3_isInRace 18 = .ok (.goto 4, 3) := by decide +kernel
theorem dX3_isInRace_21 : decode cX3_isInRace 21 = .ok (.iconst 0, 1) := by decide +kernel
theorem dX3_isInRace_22 : decode cX3_isInRace 22 = .ok (.ireturn, 1) := by decide +kernel
theorem dX3_playersInRace_0 : decode cX3_playersInRace 0 = .ok (.iconst 0, 1) := by decide +kernel
theorem dX3_playersInRace_1 : decode cX3_playersInRace 1 = .ok (.istore_n 1, 1) := by decide +kernel
theorem dX3_playersInRace_2 : decode cX3_playersInRace 2 = .ok (.iconst 0, 1) := by decide +kernel
theorem dX3_playersInRace_3 : decode cX3_playersInRace 3 = .ok (.istore_n 2, 1) := by decide +kernel
theorem dX3_playersInRace_4 : decode cX3_playersInRace 4 = .ok (.iload_n 2, 1) := by decide +kernel
theorem dX3_playersInRace_5 : decode cX3_playersInRace 5 = .ok (.iconst 4, 1) := by decide +kernel
theorem dX3_playersInRace_6 : decode cX3_playersInRace 6 = .ok (.if_icmp .ge 25, 3) := by decide +kernel
theorem dX3_playersInRace_9 : decode cX3_playersInRace 9 = .ok (.iload_n 1, 1) := by decide +kernel
theorem dX3_playersInRace_10 : decode cX3_playersInRace 10 = .ok (.aload_n 0, 1) := by decide +kernel
theorem dX3_playersInRace_11 : decode cX3_playersInRace 11 = .ok (.iload_n 2, 1) := by decide +kernel
theorem dX3_playersInRace_12 : decode cX3_playersInRace 12 = .ok (.invokevirtual 88, 3) := by decide +kernel
theorem dX3_playersInRace_15 : decode cX3_playersInRace 15 = .ok (.ifCond .eq 7, 3) := by decide +kernel
theorem dX3_playersInRace_18 : decode cX3_playersInRace 18 = .ok (.iconst 1, 1) := by decide +kernel
theorem dX3_playersInRace_19 : decode cX3_playersInRace 19 = .ok (.goto 4, 3) := by decide +kernel
theorem dX3_playersInRace_22 : decode cX3_playersInRace 22 = .ok (.iconst 0, 1) := by decide +kernel
theorem dX3_playersInRace_23 : decode cX3_playersInRace 23 = .ok (.iadd, 1) := by decide +kernel
theorem dX3_playersInRace_24 : decode cX3_playersInRace 24 = .ok (.istore_n 1, 1) := by decide +kernel
theorem dX3_playersInRace_25 : decode cX3_playersInRace 25 = .ok (.iinc 2 1, 3) := by decide +kernel
theorem dX3_playersInRace_28 : decode cX3_playersInRace 28 = .ok (.goto (-24), 3) := by decide +kernel
theorem dX3_playersInRace_31 : decode cX3_playersInRace 31 = .ok (.iload_n 1, 1) := by decide +kernel
theorem dX3_playersInRace_32 : decode cX3_playersInRace 32 = .ok (.ireturn, 1) := by decide +kernel
theorem dX3_bitesHeld_0 : decode cX3_bitesHeld 0 = .ok (.iconst 0, 1) := by decide +kernel
theorem dX3_bitesHeld_1 : decode cX3_bitesHeld 1 = .ok (.istore_n 1, 1) := by decide +kernel
theorem dX3_bitesHeld_2 : decode cX3_bitesHeld 2 = .ok (.iconst 0, 1) := by decide +kernel
theorem dX3_bitesHeld_3 : decode cX3_bitesHeld 3 = .ok (.istore_n 2, 1) := by decide +kernel
theorem dX3_bitesHeld_4 : decode cX3_bitesHeld 4 = .ok (.iload_n 2, 1) := by decide +kernel
theorem dX3_bitesHeld_5 : decode cX3_bitesHeld 5 = .ok (.iconst 4, 1) := by decide +kernel
theorem dX3_bitesHeld_6 : decode cX3_bitesHeld 6 = .ok (.if_icmp .ge 30, 3) := by decide +kernel
theorem dX3_bitesHeld_9 : decode cX3_bitesHeld 9 = .ok (.aload_n 0, 1) := by decide +kernel
theorem dX3_bitesHeld_10 : decode cX3_bitesHeld 10 = .ok (.iload_n 2, 1) := by decide +kernel
theorem dX3_bitesHeld_11 : decode cX3_bitesHeld 11 = .ok (.invokevirtual 35, 3) := by decide +kernel
theorem dX3_bitesHeld_14 : decode cX3_bitesHeld 14 = .ok (.astore_n 3, 1) := by decide +kernel
theorem dX3_bitesHeld_15 : decode cX3_bitesHeld 15 = .ok (.iload_n 1, 1) := by decide +kernel
theorem dX3_bitesHeld_16 : decode cX3_bitesHeld 16 = .ok (.aload_n 3, 1) := by decide +kernel
theorem dX3_bitesHeld_17 : decode cX3_bitesHeld 17 = .ok (.ifnonnull 7, 3) := by decide +kernel
theorem dX3_bitesHeld_20 : decode cX3_bitesHeld 20 = .ok (.iconst 0, 1) := by decide +kernel
theorem dX3_bitesHeld_21 : decode cX3_bitesHeld 21 = .ok (.goto 7, 3) := by decide +kernel
theorem dX3_bitesHeld_24 : decode cX3_bitesHeld 24 = .ok (.aload_n 3, 1) := by decide +kernel
theorem dX3_bitesHeld_25 : decode cX3_bitesHeld 25 = .ok (.getfield 91, 3) := by decide +kernel
theorem dX3_bitesHeld_28 : decode cX3_bitesHeld 28 = .ok (.iadd, 1) := by decide +kernel
theorem dX3_bitesHeld_29 : decode cX3_bitesHeld 29 = .ok (.istore_n 1, 1) := by decide +kernel
theorem dX3_bitesHeld_30 : decode cX3_bitesHeld 30 = .ok (.iinc 2 1, 3) := by decide +kernel
theorem dX3_bitesHeld_33 : decode cX3_bitesHeld 33 = .ok (.goto (-29), 3) := by decide +kernel
theorem dX3_bitesHeld_36 : decode cX3_bitesHeld 36 = .ok (.iload_n 1, 1) := by decide +kernel
theorem dX3_bitesHeld_37 : decode cX3_bitesHeld 37 = .ok (.ireturn, 1) := by decide +kernel
theorem dX3_coinsOfAll_0 : decode cX3_coinsOfAll 0 = .ok (.iconst 0, 1) := by decide +kernel
theorem dX3_coinsOfAll_1 : decode cX3_coinsOfAll 1 = .ok (.istore_n 1, 1) := by decide +kernel
theorem dX3_coinsOfAll_2 : decode cX3_coinsOfAll 2 = .ok (.iconst 0, 1) := by decide +kernel
theorem dX3_coinsOfAll_3 : decode cX3_coinsOfAll 3 = .ok (.istore_n 2, 1) := by decide +kernel
theorem dX3_coinsOfAll_4 : decode cX3_coinsOfAll 4 = .ok (.iload_n 2, 1) := by decide +kernel
theorem dX3_coinsOfAll_5 : decode cX3_coinsOfAll 5 = .ok (.iconst 4, 1) := by decide +kernel
theorem dX3_coinsOfAll_6 : decode cX3_coinsOfAll 6 = .ok (.if_icmp .ge 30, 3) := by decide +kernel
theorem dX3_coinsOfAll_9 : decode cX3_coinsOfAll 9 = .ok (.aload_n 0, 1) := by decide +kernel
theorem dX3_coinsOfAll_10 : decode cX3_coinsOfAll 10 = .ok (.iload_n 2, 1) := by decide +kernel
theorem dX3_coinsOfAll_11 : decode cX3_coinsOfAll 11 = .ok (.invokevirtual 35, 3) := by decide +kernel
theorem dX3_coinsOfAll_14 : decode cX3_coinsOfAll 14 = .ok (.astore_n 3, 1) := by decide +kernel
theorem dX3_coinsOfAll_15 : decode cX3_coinsOfAll 15 = .ok (.iload_n 1, 1) := by decide +kernel
theorem dX3_coinsOfAll_16 : decode cX3_coinsOfAll 16 = .ok (.aload_n 3, 1) := by decide +kernel
theorem dX3_coinsOfAll_17 : decode cX3_coinsOfAll 17 = .ok (.ifnonnull 7, 3) := by decide +kernel
theorem dX3_coinsOfAll_20 : decode cX3_coinsOfAll 20 = .ok (.iconst 0, 1) := by decide +kernel
theorem dX3_coinsOfAll_21 : decode cX3_coinsOfAll 21 = .ok (.goto 7, 3) := by decide +kernel
theorem dX3_coinsOfAll_24 : decode cX3_coinsOfAll 24 = .ok (.aload_n 3, 1) := by decide +kernel
theorem dX3_coinsOfAll_25 : decode cX3_coinsOfAll 25 = .ok (.getfield 94, 3) := by decide +kernel
theorem dX3_coinsOfAll_28 : decode cX3_coinsOfAll 28 = .ok (.iadd, 1) := by decide +kernel
theorem dX3_coinsOfAll_29 : decode cX3_coinsOfAll 29 = .ok (.istore_n 1, 1) := by decide +kernel
theorem dX3_coinsOfAll_30 : decode cX3_coinsOfAll 30 = .ok (.iinc 2 1, 3) := by decide +kernel
theorem dX3_coinsOfAll_33 : decode cX3_coinsOfAll 33 = .ok (.goto (-29), 3) := by decide +kernel
theorem dX3_coinsOfAll_36 : decode cX3_coinsOfAll 36 = .ok (.iload_n 1, 1) := by decide +kernel
theorem dX3_coinsOfAll_37 : decode cX3_coinsOfAll 37 = .ok (.ireturn, 1) := by decide +kernel
theorem dX3_settingOf_0 : decode cX3_settingOf 0 = .ok (.iload_n 1, 1) := by decide +kernel
theorem dX3_settingOf_1 : decode cX3_settingOf 1 = .ok (.lookupswitch 37 #[(0, 27), (1, 32)], 27) := by decide +kernel
theorem dX3_settingOf_28 : decode cX3_settingOf 28 = .ok (.aload_n 0, 1) := by decide +kernel
theorem dX3_settingOf_29 : decode cX3_settingOf 29 = .ok (.getfield 25, 3) := by decide +kernel
theorem dX3_settingOf_32 : decode cX3_settingOf 32 = .ok (.ireturn, 1) := by decide +kernel
theorem dX3_settingOf_33 : decode cX3_settingOf 33 = .ok (.aload_n 0, 1) := by decide +kernel
theorem dX3_settingOf_34 : decode cX3_settingOf 34 = .ok (.getfield 29, 3) := by decide +kernel
theorem dX3_settingOf_37 : decode cX3_settingOf 37 = .ok (.ireturn, 1) := by decide +kernel
theorem dX3_settingOf_38 : decode cX3_settingOf 38 = .ok (.aload_n 0, 1) := by decide +kernel
theorem dX3_settingOf_39 : decode cX3_settingOf 39 = .ok (.getfield 32, 3) := by decide +kernel
theorem dX3_settingOf_42 : decode cX3_settingOf 42 = .ok (.ireturn, 1) := by decide +kernel
theorem dX3_changeSetting_0 : decode cX3_changeSetting 0 = .ok (.iload_n 1, 1) := by decide +kernel
theorem dX3_changeSetting_1 : decode cX3_changeSetting 1 = .ok (.lookupswitch 43 #[(0, 27), (1, 35)], 27) := by decide +kernel
theorem dX3_changeSetting_28 : decode cX3_changeSetting 28 = .ok (.aload_n 0, 1) := by decide +kernel
theorem dX3_changeSetting_29 : decode cX3_changeSetting 29 = .ok (.iload_n 2, 1) := by decide +kernel
theorem dX3_changeSetting_30 : decode cX3_changeSetting 30 = .ok (.putfield 25, 3) := by decide +kernel
theorem dX3_changeSetting_33 : decode cX3_changeSetting 33 = .ok (.goto 16, 3) := by decide +kernel
theorem dX3_changeSetting_36 : decode cX3_changeSetting 36 = .ok (.aload_n 0, 1) := by decide +kernel
theorem dX3_changeSetting_37 : decode cX3_changeSetting 37 = .ok (.iload_n 2, 1) := by decide +kernel
theorem dX3_changeSetting_38 : decode cX3_changeSetting 38 = .ok (.putfield 29, 3) := by decide +kernel
theorem dX3_changeSetting_41 : decode cX3_changeSetting 41 = .ok (.goto 8, 3) := by decide +kernel
theorem dX3_changeSetting_44 : decode cX3_changeSetting 44 = .ok (.aload_n 0, 1) := by decide +kernel
theorem dX3_changeSetting_45 : decode cX3_changeSetting 45 = .ok (.iload_n 2, 1) := by decide +kernel
theorem dX3_changeSetting_46 : decode cX3_changeSetting 46 = .ok (.putfield 32, 3) := by decide +kernel
theorem dX3_changeSetting_49 : decode cX3_changeSetting 49 = .ok (.return_, 1) := by decide +kernel
theorem dX3_isOver_0 : decode cX3_isOver 0 = .ok (.aload_n 0, 1) := by decide +kernel
theorem dX3_isOver_1 : decode cX3_isOver 1 = .ok (.getfield 50, 3) := by decide +kernel
theorem dX3_isOver_4 : decode cX3_isOver 4 = .ok (.bipush (-5), 2) := by decide +kernel
theorem dX3_isOver_6 : decode cX3_isOver 6 = .ok (.if_icmp .ne 7, 3) := by decide +kernel
theorem dX3_isOver_9 : decode cX3_isOver 9 = .ok (.iconst 1, 1) := by decide +kernel
theorem dX3_isOver_10 : decode cX3_isOver 10 = .ok (.goto 4, 3) := by decide +kernel
theorem dX3_isOver_13 : decode cX3_isOver 13 = .ok (.iconst 0, 1) := by decide +kernel
theorem dX3_isOver_14 : decode cX3_isOver 14 = .ok (.ireturn, 1) := by decide +kernel
theorem dX3_makeTurn_0 : decode cX3_makeTurn 0 = .ok (.aload_n 0, 1) := by decide +kernel
theorem dX3_makeTurn_1 : decode cX3_makeTurn 1 = .ok (.getfield 50, 3) := by decide +kernel
theorem dX3_makeTurn_4 : decode cX3_makeTurn 4 = .ok (.istore_n 2, 1) := by decide +kernel
theorem dX3_makeTurn_5 : decode cX3_makeTurn 5 = .ok (.aload_n 0, 1) := by decide +kernel
theorem dX3_makeTurn_6 : decode cX3_makeTurn 6 = .ok (.iload_n 2, 1) := by decide +kernel
theorem dX3_makeTurn_7 : decode cX3_makeTurn 7 = .ok (.invokevirtual 35, 3) := by decide +kernel
theorem dX3_makeTurn_10 : decode cX3_makeTurn 10 = .ok (.astore_n 3, 1) := by decide +kernel
theorem dX3_makeTurn_11 : decode cX3_makeTurn 11 = .ok (.aload_n 3, 1) := by decide +kernel
theorem dX3_makeTurn_12 : decode cX3_makeTurn 12 = .ok (.ifnonnull 6, 3) := by decide +kernel
theorem dX3_makeTurn_15 : decode cX3_makeTurn 15 = .ok (.bipush (-4), 2) := by decide +kernel
theorem dX3_makeTurn_17 : decode cX3_makeTurn 17 = .ok (.ireturn, 1) := by decide +kernel
theorem dX3_makeTurn_18 : decode cX3_makeTurn 18 = .ok (.aload_n 3, 1) := by decide +kernel
theorem dX3_makeTurn_19 : decode cX3_makeTurn 19 = .ok (.invokevirtual 97, 3) := by decide +kernel
theorem dX3_makeTurn_22 : decode cX3_makeTurn 22 = .ok (.aload_n 3, 1) := by decide +kernel
theorem dX3_makeTurn_23 : decode cX3_makeTurn 23 = .ok (.aload_n 3, 1) := by decide +kernel
theorem dX3_makeTurn_24 : decode cX3_makeTurn 24 = .ok (.getfield 82, 3) := by decide +kernel
theorem dX3_makeTurn_27 : decode cX3_makeTurn 27 = .ok (.iload_n 1, 1) := by decide +kernel
theorem dX3_makeTurn_28 : decode cX3_makeTurn 28 = .ok (.invokestatic 100, 3) := by decide +kernel
theorem dX3_makeTurn_31 : decode cX3_makeTurn 31 = .ok (.putfield 82, 3) := by decide +kernel
theorem dX3_makeTurn_34 : decode cX3_makeTurn 34 = .ok (.aload_n 0, 1) := by decide +kernel
theorem dX3_makeTurn_35 : decode cX3_makeTurn 35 = .ok (.iload_n 2, 1) := by decide +kernel
theorem dX3_makeTurn_36 : decode cX3_makeTurn 36 = .ok (.aload_n 3, 1) := by decide +kernel
theorem dX3_makeTurn_37 : decode cX3_makeTurn 37 = .ok (.getfield 82, 3) := by decide +kernel
theorem dX3_makeTurn_40 : decode cX3_makeTurn 40 = .ok (.invokevirtual 104, 3) := by decide +kernel
theorem dX3_makeTurn_43 : decode cX3_makeTurn 43 = .ok (.astore 4, 2) := by decide +kernel
theorem dX3_makeTurn_45 : decode cX3_makeTurn 45 = .ok (.aload 4, 2) := by decide +kernel
theorem dX3_makeTurn_47 : decode cX3_makeTurn 47 = .ok (.ifnull 11, 3) := by decide +kernel
theorem dX3_makeTurn_50 : decode cX3_makeTurn 50 = .ok (.aload_n 0, 1) := by decide +kernel
theorem dX3_makeTurn_51 : decode cX3_makeTurn 51 = .ok (.aload 4, 2) := by decide +kernel
theorem dX3_makeTurn_53 : decode cX3_makeTurn 53 = .ok (.aload_n 3, 1) := by decide +kernel
theorem dX3_makeTurn_54 : decode cX3_makeTurn 54 = .ok (.iload_n 2, 1) := by decide +kernel
theorem dX3_makeTurn_55 : decode cX3_makeTurn 55 = .ok (.invokevirtual 108, 3) := by decide +kernel
theorem dX3_makeTurn_58 : decode cX3_makeTurn 58 = .ok (.aload_n 3, 1) := by decide +kernel
theorem dX3_makeTurn_59 : decode cX3_makeTurn 59 = .ok (.invokevirtual 85, 3) := by decide +kernel
theorem dX3_makeTurn_62 : decode cX3_makeTurn 62 = .ok (.ifCond .ne 21, 3) := by decide +kernel
theorem dX3_makeTurn_65 : decode cX3_makeTurn 65 = .ok (.aload_n 0, 1) := by decide +kernel
theorem dX3_makeTurn_66 : decode cX3_makeTurn 66 = .ok (.dup, 1) := by decide +kernel
theorem dX3_makeTurn_67 : decode cX3_makeTurn 67 = .ok (.getfield 56, 3) := by decide +kernel
theorem dX3_makeTurn_70 : decode cX3_makeTurn 70 = .ok (.iconst 1, 1) := by decide +kernel
theorem dX3_makeTurn_71 : decode cX3_makeTurn 71 = .ok (.iadd, 1) := by decide +kernel
theorem dX3_makeTurn_72 : decode cX3_makeTurn 72 = .ok (.putfield 56, 3) := by decide +kernel
theorem dX3_makeTurn_75 : decode cX3_makeTurn 75 = .ok (.aload_n 3, 1) := by decide +kernel
theorem dX3_makeTurn_76 : decode cX3_makeTurn 76 = .ok (.aload_n 0, 1) := by decide +kernel
theorem dX3_makeTurn_77 : decode cX3_makeTurn 77 = .ok (.getfield 56, 3) := by decide +kernel
theorem dX3_makeTurn_80 : decode cX3_makeTurn 80 = .ok (.putfield 112, 3) := by decide +kernel
theorem dX3_makeTurn_83 : decode cX3_makeTurn 83 = .ok (.aload_n 0, 1) := by decide +kernel
theorem dX3_makeTurn_84 : decode cX3_makeTurn 84 = .ok (.invokevirtual 115, 3) := by decide +kernel
theorem dX3_makeTurn_87 : decode cX3_makeTurn 87 = .ok (.aload_n 0, 1) := by decide +kernel
theorem dX3_makeTurn_88 : decode cX3_makeTurn 88 = .ok (.dup, 1) := by decide +kernel
theorem dX3_makeTurn_89 : decode cX3_makeTurn 89 = .ok (.getfield 53, 3) := by decide +kernel
theorem dX3_makeTurn_92 : decode cX3_makeTurn 92 = .ok (.iconst 1, 1) := by decide +kernel
theorem dX3_makeTurn_93 : decode cX3_makeTurn 93 = .ok (.iadd, 1) := by decide +kernel
theorem dX3_makeTurn_94 : decode cX3_makeTurn 94 = .ok (.putfield 53, 3) := by decide +kernel
theorem dX3_makeTurn_97 : decode cX3_makeTurn 97 = .ok (.aload_n 0, 1) := by decide +kernel
theorem dX3_makeTurn_98 : decode cX3_makeTurn 98 = .ok (.aload_n 0, 1) := by decide +kernel
theorem dX3_makeTurn_99 : decode cX3_makeTurn 99 = .ok (.iload_n 2, 1) := by decide +kernel
theorem dX3_makeTurn_100 : decode cX3_makeTurn 100 = .ok (.invokevirtual 118, 3) := by decide +kernel
theorem dX3_makeTurn_103 : decode cX3_makeTurn 103 = .ok (.putfield 50, 3) := by decide +kernel
theorem dX3_makeTurn_106 : decode cX3_makeTurn 106 = .ok (.aload_n 3, 1) := by decide +kernel
theorem dX3_makeTurn_107 : decode cX3_makeTurn 107 = .ok (.getfield 82, 3) := by decide +kernel
theorem dX3_makeTurn_110 : decode cX3_makeTurn 110 = .ok (.ireturn, 1) := by decide +kernel
theorem dX3_biterOf_0 : decode cX3_biterOf 0 = .ok (.aload_n 0, 1) := by decide +kernel
theorem dX3_biterOf_1 : decode cX3_biterOf 1 = .ok (.aload_n 0, 1) := by decide +kernel
theorem dX3_biterOf_2 : decode cX3_biterOf 2 = .ok (.iload_n 2, 1) := by decide +kernel
theorem dX3_biterOf_3 : decode cX3_biterOf 3 = .ok (.invokevirtual 122, 3) := by decide +kernel
theorem dX3_biterOf_6 : decode cX3_biterOf 6 = .ok (.invokevirtual 73, 3) := by decide +kernel
theorem dX3_biterOf_9 : decode cX3_biterOf 9 = .ok (.astore_n 3, 1) := by decide +kernel
theorem dX3_biterOf_10 : decode cX3_biterOf 10 = .ok (.aload_n 3, 1) := by decide +kernel
theorem dX3_biterOf_11 : decode cX3_biterOf 11 = .ok (.ifnull 10, 3) := by decide +kernel
theorem dX3_biterOf_14 : decode cX3_biterOf 14 = .ok (.aload_n 3, 1) := by decide +kernel
theorem dX3_biterOf_15 : decode cX3_biterOf 15 = .ok (.getfield 125, 3) := by decide +kernel
theorem dX3_biterOf_18 : decode cX3_biterOf 18 = .ok (.ifCond .le 5, 3) := by decide +kernel
theorem dX3_biterOf_21 : decode cX3_biterOf 21 = .ok (.aconst_null, 1) := by decide +kernel
theorem dX3_biterOf_22 : decode cX3_biterOf 22 = .ok (.areturn, 1) := by decide +kernel
theorem dX3_biterOf_23 : decode cX3_biterOf 23 = .ok (.aload_n 0, 1) := by decide +kernel
theorem dX3_biterOf_24 : decode cX3_biterOf 24 = .ok (.iload_n 2, 1) := by decide +kernel
theorem dX3_biterOf_25 : decode cX3_biterOf 25 = .ok (.invokevirtual 128, 3) := by decide +kernel
theorem dX3_biterOf_28 : decode cX3_biterOf 28 = .ok (.iconst 1, 1) := by decide +kernel
theorem dX3_biterOf_29 : decode cX3_biterOf 29 = .ok (.iload_n 1, 1) := by decide +kernel
theorem dX3_biterOf_30 : decode cX3_biterOf 30 = .ok (.ishl, 1) := by decide +kernel
theorem dX3_biterOf_31 : decode cX3_biterOf 31 = .ok (.iconst (-1), 1) := by decide +kernel
theorem dX3_biterOf_32 : decode cX3_biterOf 32 = .ok (.ixor, 1) := by decide +kernel
theorem dX3_biterOf_33 : decode cX3_biterOf 33 = .ok (.iand, 1) := by decide +kernel
theorem dX3_biterOf_34 : decode cX3_biterOf 34 = .ok (.istore 4, 2) := by decide +kernel
theorem dX3_biterOf_36 : decode cX3_biterOf 36 = .ok (.iload 4, 2) := by decide +kernel
theorem dX3_biterOf_38 : decode cX3_biterOf 38 = .ok (.ifCond .ne 7, 3) := by decide +kernel
theorem dX3_biterOf_41 : decode cX3_biterOf 41 = .ok (.aload_n 3, 1) := by decide +kernel
theorem dX3_biterOf_42 : decode cX3_biterOf 42 = .ok (.goto 4, 3) := by decide +kernel
theorem dX3_biterOf_45 : decode cX3_biterOf 45 = .ok (.aconst_null, 1) := by decide +kernel
theorem dX3_biterOf_46 : decode cX3_biterOf 46 = .ok (.areturn, 1) := by decide +kernel
theorem dX3_biteWith_0 : decode cX3_biteWith 0 = .ok (.aload_n 2, 1) := by decide +kernel
theorem dX3_biteWith_1 : decode cX3_biteWith 1 = .ok (.invokevirtual 131, 3) := by decide +kernel
theorem dX3_biteWith_4 : decode cX3_biteWith 4 = .ok (.astore 4, 2) := by decide +kernel
theorem dX3_biteWith_6 : decode cX3_biteWith 6 = .ok (.aload 4, 2) := by decide +kernel
theorem dX3_biteWith_8 : decode cX3_biteWith 8 = .ok (.ifnull 18, 3) := by decide +kernel
theorem dX3_biteWith_11 : decode cX3_biteWith 11 = .ok (.aload 4, 2) := by decide +kernel
theorem dX3_biteWith_13 : decode cX3_biteWith 13 = .ok (.aload_n 1, 1) := by decide +kernel
theorem dX3_biteWith_14 : decode cX3_biteWith 14 = .ok (.getfield 76, 3) := by decide +kernel
theorem dX3_biteWith_17 : decode cX3_biteWith 17 = .ok (.aload_n 1, 1) := by decide +kernel
theorem dX3_biteWith_18 : decode cX3_biteWith 18 = .ok (.getfield 79, 3) := by decide +kernel
theorem dX3_biteWith_21 : decode cX3_biteWith 21 = .ok (.isub, 1) := by decide +kernel
theorem dX3_biteWith_22 : decode cX3_biteWith 22 = .ok (.iload_n 3, 1) := by decide +kernel
theorem dX3_biteWith_23 : decode cX3_biteWith 23 = .ok (.invokevirtual 135, 3) := by decide +kernel
theorem dX3_biteWith_26 : decode cX3_biteWith 26 = .ok (.aload_n 1, 1) := by decide +kernel
theorem dX3_biteWith_27 : decode cX3_biteWith 27 = .ok (.dup, 1) := by decide +kernel
theorem dX3_biteWith_28 : decode cX3_biteWith 28 = .ok (.getfield 141, 3) := by decide +kernel
theorem dX3_biteWith_31 : decode cX3_biteWith 31 = .ok (.iconst 1, 1) := by decide +kernel
theorem dX3_biteWith_32 : decode cX3_biteWith 32 = .ok (.iadd, 1) := by decide +kernel
theorem dX3_biteWith_33 : decode cX3_biteWith 33 = .ok (.putfield 141, 3) := by decide +kernel
theorem dX3_biteWith_36 : decode cX3_biteWith 36 = .ok (.aload_n 1, 1) := by decide +kernel
theorem dX3_biteWith_37 : decode cX3_biteWith 37 = .ok (.aload_n 0, 1) := by decide +kernel
theorem dX3_biteWith_38 : decode cX3_biteWith 38 = .ok (.getfield 25, 3) := by decide +kernel
theorem dX3_biteWith_41 : decode cX3_biteWith 41 = .ok (.iconst 1, 1) := by decide +kernel
theorem dX3_biteWith_42 : decode cX3_biteWith 42 = .ok (.iadd, 1) := by decide +kernel
theorem dX3_biteWith_43 : decode cX3_biteWith 43 = .ok (.putfield 125, 3) := by decide +kernel
theorem dX3_biteWith_46 : decode cX3_biteWith 46 = .ok (.aload_n 2, 1) := by decide +kernel
theorem dX3_biteWith_47 : decode cX3_biteWith 47 = .ok (.dup, 1) := by decide +kernel
theorem dX3_biteWith_48 : decode cX3_biteWith 48 = .ok (.getfield 144, 3) := by decide +kernel
theorem dX3_biteWith_51 : decode cX3_biteWith 51 = .ok (.iconst 1, 1) := by decide +kernel
theorem dX3_biteWith_52 : decode cX3_biteWith 52 = .ok (.iadd, 1) := by decide +kernel
theorem dX3_biteWith_53 : decode cX3_biteWith 53 = .ok (.putfield 144, 3) := by decide +kernel
theorem dX3_biteWith_56 : decode cX3_biteWith 56 = .ok (.aload_n 0, 1) := by decide +kernel
theorem dX3_biteWith_57 : decode cX3_biteWith 57 = .ok (.dup, 1) := by decide +kernel
theorem dX3_biteWith_58 : decode cX3_biteWith 58 = .ok (.getfield 59, 3) := by decide +kernel
theorem dX3_biteWith_61 : decode cX3_biteWith 61 = .ok (.iconst 1, 1) := by decide +kernel
theorem dX3_biteWith_62 : decode cX3_biteWith 62 = .ok (.iadd, 1) := by decide +kernel
theorem dX3_biteWith_63 : decode cX3_biteWith 63 = .ok (.putfield 59, 3) := by decide +kernel
theorem dX3_biteWith_66 : decode cX3_biteWith 66 = .ok (.return_, 1) := by decide +kernel
theorem dX3_shortenSleeps_0 : decode cX3_shortenSleeps 0 = .ok (.iconst 0, 1) := by decide +kernel
theorem dX3_shortenSleeps_1 : decode cX3_shortenSleeps 1 = .ok (.istore_n 1, 1) := by decide +kernel
theorem dX3_shortenSleeps_2 : decode cX3_shortenSleeps 2 = .ok (.iload_n 1, 1) := by decide +kernel
theorem dX3_shortenSleeps_3 : decode cX3_shortenSleeps 3 = .ok (.bipush 10, 2) := by decide +kernel
theorem dX3_shortenSleeps_5 : decode cX3_shortenSleeps 5 = .ok (.if_icmp .ge 36, 3) := by decide +kernel
theorem dX3_shortenSleeps_8 : decode cX3_shortenSleeps 8 = .ok (.aload_n 0, 1) := by decide +kernel
theorem dX3_shortenSleeps_9 : decode cX3_shortenSleeps 9 = .ok (.iload_n 1, 1) := by decide +kernel
theorem dX3_shortenSleeps_10 : decode cX3_shortenSleeps 10 = .ok (.invokevirtual 73, 3) := by decide +kernel
theorem dX3_shortenSleeps_13 : decode cX3_shortenSleeps 13 = .ok (.astore_n 2, 1) := by decide +kernel
theorem dX3_shortenSleeps_14 : decode cX3_shortenSleeps 14 = .ok (.aload_n 2, 1) := by decide +kernel
theorem dX3_shortenSleeps_15 : decode cX3_shortenSleeps 15 = .ok (.ifnull 20, 3) := by decide +kernel
theorem dX3_shortenSleeps_18 : decode cX3_shortenSleeps 18 = .ok (.aload_n 2, 1) := by decide +kernel
theorem dX3_shortenSleeps_19 : decode cX3_shortenSleeps 19 = .ok (.getfield 125, 3) := by decide +kernel
theorem dX3_shortenSleeps_22 : decode cX3_shortenSleeps 22 = .ok (.ifCond .le 13, 3) := by decide +kernel
theorem dX3_shortenSleeps_25 : decode cX3_shortenSleeps 25 = .ok (.aload_n 2, 1) := by decide +kernel
theorem dX3_shortenSleeps_26 : decode cX3_shortenSleeps 26 = .ok (.dup, 1) := by decide +kernel
theorem dX3_shortenSleeps_27 : decode cX3_shortenSleeps 27 = .ok (.getfield 125, 3) := by decide +kernel
theorem dX3_shortenSleeps_30 : decode cX3_shortenSleeps 30 = .ok (.iconst 1, 1) := by decide +kernel
theorem dX3_shortenSleeps_31 : decode cX3_shortenSleeps 31 = .ok (.isub, 1) := by decide +kernel
theorem dX3_shortenSleeps_32 : decode cX3_shortenSleeps 32 = .ok (.putfield 125, 3) := by decide +kernel
theorem dX3_shortenSleeps_35 : decode cX3_shortenSleeps 35 = .ok (.iinc 1 1, 3) := by decide +kernel
theorem dX3_shortenSleeps_38 : decode cX3_shortenSleeps 38 = .ok (.goto (-36), 3) := by decide +kernel
theorem dX3_shortenSleeps_41 : decode cX3_shortenSleeps 41 = .ok (.return_, 1) := by decide +kernel
theorem dX3_moverAfter_0 : decode cX3_moverAfter 0 = .ok (.iconst 1, 1) := by decide +kernel
theorem dX3_moverAfter_1 : decode cX3_moverAfter 1 = .ok (.istore_n 2, 1) := by decide +kernel
theorem dX3_moverAfter_2 : decode cX3_moverAfter 2 = .ok (.iload_n 2, 1) := by decide +kernel
theorem dX3_moverAfter_3 : decode cX3_moverAfter 3 = .ok (.iconst 4, 1) := by decide +kernel
theorem dX3_moverAfter_4 : decode cX3_moverAfter 4 = .ok (.if_icmp .gt 25, 3) := by decide +kernel
theorem dX3_moverAfter_7 : decode cX3_moverAfter 7 = .ok (.iload_n 1, 1) := by decide +kernel
theorem dX3_moverAfter_8 : decode cX3_moverAfter 8 = .ok (.iload_n 2, 1) := by decide +kernel
theorem dX3_moverAfter_9 : decode cX3_moverAfter 9 = .ok (.iadd, 1) := by decide +kernel
theorem dX3_moverAfter_10 : decode cX3_moverAfter 10 = .ok (.iconst 4, 1) := by decide +kernel
theorem dX3_moverAfter_11 : decode cX3_moverAfter 11 = .ok (.irem, 1) := by decide +kernel
theorem dX3_moverAfter_12 : decode cX3_moverAfter 12 = .ok (.istore_n 3, 1) := by decide +kernel
theorem dX3_moverAfter_13 : decode cX3_moverAfter 13 = .ok (.aload_n 0, 1) := by decide +kernel
theorem dX3_moverAfter_14 : decode cX3_moverAfter 14 = .ok (.iload_n 3, 1) := by decide +kernel
theorem dX3_moverAfter_15 : decode cX3_moverAfter 15 = .ok (.invokevirtual 88, 3) := by decide +kernel
theorem dX3_moverAfter_18 : decode cX3_moverAfter 18 = .ok (.ifCond .eq 5, 3) := by decide +kernel
theorem dX3_moverAfter_21 : decode cX3_moverAfter 21 = .ok (.iload_n 3, 1) := by decide +kernel
theorem dX3_moverAfter_22 : decode cX3_moverAfter 22 = .ok (.ireturn, 1) := by decide +kernel
theorem dX3_moverAfter_23 : decode cX3_moverAfter 23 = .ok (.iinc 2 1, 3) := by decide +kernel
theorem dX3_moverAfter_26 : decode cX3_moverAfter 26 = .ok (.goto (-24), 3) := by decide +kernel
theorem dX3_moverAfter_29 : decode cX3_moverAfter 29 = .ok (.bipush (-5), 2) := by decide +kernel
theorem dX3_moverAfter_31 : decode cX3_moverAfter 31 = .ok (.ireturn, 1) := by decide +kernel
theorem dX3_beginningAfter_0 : decode cX3_beginningAfter 0 = .ok (.aload_n 0, 1) := by decide +kernel
theorem dX3_beginningAfter_1 : decode cX3_beginningAfter 1 = .ok (.aload_n 0, 1) := by decide +kernel
theorem dX3_beginningAfter_2 : decode cX3_beginningAfter 2 = .ok (.iload_n 1, 1) := by decide +kernel
theorem dX3_beginningAfter_3 : decode cX3_beginningAfter 3 = .ok (.invokevirtual 122, 3) := by decide +kernel
theorem dX3_beginningAfter_6 : decode cX3_beginningAfter 6 = .ok (.invokevirtual 73, 3) := by decide +kernel
theorem dX3_beginningAfter_9 : decode cX3_beginningAfter 9 = .ok (.astore_n 2, 1) := by decide +kernel
theorem dX3_beginningAfter_10 : decode cX3_beginningAfter 10 = .ok (.aload_n 2, 1) := by decide +kernel
theorem dX3_beginningAfter_11 : decode cX3_beginningAfter 11 = .ok (.ifnonnull 7, 3) := by decide +kernel
theorem dX3_beginningAfter_14 : decode cX3_beginningAfter 14 = .ok (.iload_n 1, 1) := by decide +kernel
theorem dX3_beginningAfter_15 : decode cX3_beginningAfter 15 = .ok (.goto 7, 3) := by decide +kernel
theorem dX3_beginningAfter_18 : decode cX3_beginningAfter 18 = .ok (.aload_n 2, 1) := by decide +kernel
theorem dX3_beginningAfter_19 : decode cX3_beginningAfter 19 = .ok (.getfield 79, 3) := by decide +kernel
theorem dX3_beginningAfter_22 : decode cX3_beginningAfter 22 = .ok (.ireturn, 1) := by decide +kernel
theorem dX3_askedBy_0 : decode cX3_askedBy 0 = .ok (.aload_n 0, 1) := by decide +kernel
theorem dX3_askedBy_1 : decode cX3_askedBy 1 = .ok (.iload_n 1, 1) := by decide +kernel
theorem dX3_askedBy_2 : decode cX3_askedBy 2 = .ok (.invokevirtual 35, 3) := by decide +kernel
theorem dX3_askedBy_5 : decode cX3_askedBy 5 = .ok (.astore_n 3, 1) := by decide +kernel
theorem dX3_askedBy_6 : decode cX3_askedBy 6 = .ok (.aload_n 3, 1) := by decide +kernel
theorem dX3_askedBy_7 : decode cX3_askedBy 7 = .ok (.ifnonnull 7, 3) := by decide +kernel
theorem dX3_askedBy_10 : decode cX3_askedBy 10 = .ok (.iconst 0, 1) := by decide +kernel
theorem dX3_askedBy_11 : decode cX3_askedBy 11 = .ok (.goto 7, 3) := by decide +kernel
theorem dX3_askedBy_14 : decode cX3_askedBy 14 = .ok (.aload_n 3, 1) := by decide +kernel
theorem dX3_askedBy_15 : decode cX3_askedBy 15 = .ok (.getfield 91, 3) := by decide +kernel
theorem dX3_askedBy_18 : decode cX3_askedBy 18 = .ok (.istore 4, 2) := by decide +kernel
theorem dX3_askedBy_20 : decode cX3_askedBy 20 = .ok (.aload_n 2, 1) := by decide +kernel
theorem dX3_askedBy_21 : decode cX3_askedBy 21 = .ok (.getfield 147, 3) := by decide +kernel
theorem dX3_askedBy_24 : decode cX3_askedBy 24 = .ok (.iconst 2, 1) := by decide +kernel
theorem dX3_askedBy_25 : decode cX3_askedBy 25 = .ok (.iadd, 1) := by decide +kernel
theorem dX3_askedBy_26 : decode cX3_askedBy 26 = .ok (.iconst 3, 1) := by decide +kernel
theorem dX3_askedBy_27 : decode cX3_askedBy 27 = .ok (.idiv, 1) := by decide +kernel
theorem dX3_askedBy_28 : decode cX3_askedBy 28 = .ok (.iconst 2, 1) := by decide +kernel
theorem dX3_askedBy_29 : decode cX3_askedBy 29 = .ok (.iload 4, 2) := by decide +kernel
theorem dX3_askedBy_31 : decode cX3_askedBy 31 = .ok (.imul, 1) := by decide +kernel
theorem dX3_askedBy_32 : decode cX3_askedBy 32 = .ok (.iadd, 1) := by decide +kernel
theorem dX3_askedBy_33 : decode cX3_askedBy 33 = .ok (.ireturn, 1) := by decide +kernel
theorem dX3_obstacle_0 : decode cX3_obstacle 0 = .ok (.aload_n 0, 1) := by decide +kernel
theorem dX3_obstacle_1 : decode cX3_obstacle 1 = .ok (.iload_n 1, 1) := by decide +kernel
theorem dX3_obstacle_2 : decode cX3_obstacle 2 = .ok (.invokevirtual 35, 3) := by decide +kernel
theorem dX3_obstacle_5 : decode cX3_obstacle 5 = .ok (.astore 5, 2) := by decide +kernel
theorem dX3_obstacle_7 : decode cX3_obstacle 7 = .ok (.aload_n 0, 1) := by decide +kernel
theorem dX3_obstacle_8 : decode cX3_obstacle 8 = .ok (.iload_n 3, 1) := by decide +kernel
theorem dX3_obstacle_9 : decode cX3_obstacle 9 = .ok (.invokevirtual 35, 3) := by decide +kernel
theorem dX3_obstacle_12 : decode cX3_obstacle 12 = .ok (.astore 6, 2) := by decide +kernel
theorem dX3_obstacle_14 : decode cX3_obstacle 14 = .ok (.aload_n 0, 1) := by decide +kernel
theorem dX3_obstacle_15 : decode cX3_obstacle 15 = .ok (.iload_n 1, 1) := by decide +kernel
theorem dX3_obstacle_16 : decode cX3_obstacle 16 = .ok (.iload_n 2, 1) := by decide +kernel
theorem dX3_obstacle_17 : decode cX3_obstacle 17 = .ok (.invokevirtual 150, 3) := by decide +kernel
theorem dX3_obstacle_20 : decode cX3_obstacle 20 = .ok (.astore 7, 2) := by decide +kernel
theorem dX3_obstacle_22 : decode cX3_obstacle 22 = .ok (.aload 5, 2) := by decide +kernel
theorem dX3_obstacle_24 : decode cX3_obstacle 24 = .ok (.ifnull 13, 3) := by decide +kernel
theorem dX3_obstacle_27 : decode cX3_obstacle 27 = .ok (.aload 6, 2) := by decide +kernel
theorem dX3_obstacle_29 : decode cX3_obstacle 29 = .ok (.ifnull 8, 3) := by decide +kernel
theorem dX3_obstacle_32 : decode cX3_obstacle 32 = .ok (.aload 7, 2) := by decide +kernel
theorem dX3_obstacle_34 : decode cX3_obstacle 34 = .ok (.ifnonnull 5, 3) := by decide +kernel
theorem dX3_obstacle_37 : decode cX3_obstacle 37 = .ok (.iconst (-1), 1) := by decide +kernel
theorem dX3_obstacle_38 : decode cX3_obstacle 38 = .ok (.ireturn, 1) := by decide +kernel
theorem dX3_obstacle_39 : decode cX3_obstacle 39 = .ok (.iload 4, 2) := by decide +kernel
theorem dX3_obstacle_41 : decode cX3_obstacle 41 = .ok (.ifCond .lt 15, 3) := by decide +kernel
theorem dX3_obstacle_44 : decode cX3_obstacle 44 = .ok (.iload 4, 2) := by decide +kernel
theorem dX3_obstacle_46 : decode cX3_obstacle 46 = .ok (.bipush 99, 2) := by decide +kernel
theorem dX3_obstacle_48 : decode cX3_obstacle 48 = .ok (.if_icmp .gt 8, 3) := by decide +kernel
theorem dX3_obstacle_51 : decode cX3_obstacle 51 = .ok (.iload_n 1, 1) := by decide +kernel
theorem dX3_obstacle_52 : decode cX3_obstacle 52 = .ok (.iload_n 3, 1) := by decide +kernel
theorem dX3_obstacle_53 : decode cX3_obstacle 53 = .ok (.if_icmp .ne 6, 3) := by decide +kernel
theorem dX3_obstacle_56 : decode cX3_obstacle 56 = .ok (.bipush (-2), 2) := by decide +kernel
theorem dX3_obstacle_58 : decode cX3_obstacle 58 = .ok (.ireturn, 1) := by decide +kernel
theorem dX3_obstacle_59 : decode cX3_obstacle 59 = .ok (.aload 6, 2) := by decide +kernel
theorem dX3_obstacle_61 : decode cX3_obstacle 61 = .ok (.invokevirtual 85, 3) := by decide +kernel
theorem dX3_obstacle_64 : decode cX3_obstacle 64 = .ok (.ifCond .ne 5, 3) := by decide +kernel
theorem dX3_obstacle_67 : decode cX3_obstacle 67 = .ok (.iconst 1, 1) := by decide +kernel
theorem dX3_obstacle_68 : decode cX3_obstacle 68 = .ok (.ireturn, 1) := by decide +kernel
theorem dX3_obstacle_69 : decode cX3_obstacle 69 = .ok (.aload 7, 2) := by decide +kernel
theorem dX3_obstacle_71 : decode cX3_obstacle 71 = .ok (.getfield 154, 3) := by decide +kernel
theorem dX3_obstacle_74 : decode cX3_obstacle 74 = .ok (.aload_n 0, 1) := by decide +kernel
theorem dX3_obstacle_75 : decode cX3_obstacle 75 = .ok (.getfield 32, 3) := by decide +kernel
theorem dX3_obstacle_78 : decode cX3_obstacle 78 = .ok (.if_icmp .lt 5, 3) := by decide +kernel
theorem dX3_obstacle_81 : decode cX3_obstacle 81 = .ok (.iconst 2, 1) := by decide +kernel
theorem dX3_obstacle_82 : decode cX3_obstacle 82 = .ok (.ireturn, 1) := by decide +kernel
theorem dX3_obstacle_83 : decode cX3_obstacle 83 = .ok (.aload 7, 2) := by decide +kernel
theorem dX3_obstacle_85 : decode cX3_obstacle 85 = .ok (.iload_n 3, 1) := by decide +kernel
theorem dX3_obstacle_86 : decode cX3_obstacle 86 = .ok (.invokevirtual 157, 3) := by decide +kernel
theorem dX3_obstacle_89 : decode cX3_obstacle 89 = .ok (.ifCond .eq 5, 3) := by decide +kernel
theorem dX3_obstacle_92 : decode cX3_obstacle 92 = .ok (.iconst 3, 1) := by decide +kernel
theorem dX3_obstacle_93 : decode cX3_obstacle 93 = .ok (.ireturn, 1) := by decide +kernel
theorem dX3_obstacle_94 : decode cX3_obstacle 94 = .ok (.aload 5, 2) := by decide +kernel
theorem dX3_obstacle_96 : decode cX3_obstacle 96 = .ok (.getfield 94, 3) := by decide +kernel
theorem dX3_obstacle_99 : decode cX3_obstacle 99 = .ok (.iload 4, 2) := by decide +kernel
theorem dX3_obstacle_101 : decode cX3_obstacle 101 = .ok (.isub, 1) := by decide +kernel
theorem dX3_obstacle_102 : decode cX3_obstacle 102 = .ok (.iconst 0, 1) := by decide +kernel
theorem dX3_obstacle_103 : decode cX3_obstacle 103 = .ok (.aload_n 0, 1) := by decide +kernel
theorem dX3_obstacle_104 : decode cX3_obstacle 104 = .ok (.getfield 29, 3) := by decide +kernel
theorem dX3_obstacle_107 : decode cX3_obstacle 107 = .ok (.isub, 1) := by decide +kernel
theorem dX3_obstacle_108 : decode cX3_obstacle 108 = .ok (.if_icmp .ge 5, 3) := by decide +kernel
theorem dX3_obstacle_111 : decode cX3_obstacle 111 = .ok (.iconst 4, 1) := by decide +kernel
theorem dX3_obstacle_112 : decode cX3_obstacle 112 = .ok (.ireturn, 1) := by decide +kernel
theorem dX3_obstacle_113 : decode cX3_obstacle 113 = .ok (.iload 4, 2) := by decide +kernel
theorem dX3_obstacle_115 : decode cX3_obstacle 115 = .ok (.aload_n 0, 1) := by decide +kernel
theorem dX3_obstacle_116 : decode cX3_obstacle 116 = .ok (.iload_n 3, 1) := by decide +kernel
theorem dX3_obstacle_117 : decode cX3_obstacle 117 = .ok (.aload 7, 2) := by decide +kernel
theorem dX3_obstacle_119 : decode cX3_obstacle 119 = .ok (.invokevirtual 160, 3) := by decide +kernel
theorem dX3_obstacle_122 : decode cX3_obstacle 122 = .ok (.if_icmp .ge 7, 3) := by decide +kernel
theorem dX3_obstacle_125 : decode cX3_obstacle 125 = .ok (.iconst 5, 1) := by decide +kernel
theorem dX3_obstacle_126 : decode cX3_obstacle 126 = .ok (.goto 4, 3) := by decide +kernel
theorem dX3_obstacle_129 : decode cX3_obstacle 129 = .ok (.iconst 0, 1) := by decide +kernel
theorem dX3_obstacle_130 : decode cX3_obstacle 130 = .ok (.ireturn, 1) := by decide +kernel
theorem dX3_trade_0 : decode cX3_trade 0 = .ok (.aload_n 0, 1) := by decide +kernel
theorem dX3_trade_1 : decode cX3_trade 1 = .ok (.iload_n 1, 1) := by decide +kernel
theorem dX3_trade_2 : decode cX3_trade 2 = .ok (.iload_n 2, 1) := by decide +kernel
theorem dX3_trade_3 : decode cX3_trade 3 = .ok (.iload_n 3, 1) := by decide +kernel
theorem dX3_trade_4 : decode cX3_trade 4 = .ok (.iload 4, 2) := by decide +kernel
theorem dX3_trade_6 : decode cX3_trade 6 = .ok (.invokevirtual 164, 3) := by decide +kernel
theorem dX3_trade_9 : decode cX3_trade 9 = .ok (.istore 5, 2) := by decide +kernel
theorem dX3_trade_11 : decode cX3_trade 11 = .ok (.iload 5, 2) := by decide +kernel
theorem dX3_trade_13 : decode cX3_trade 13 = .ok (.ifCond .eq 19, 3) := by decide +kernel
theorem dX3_trade_16 : decode cX3_trade 16 = .ok (.iload 5, 2) := by decide +kernel
theorem dX3_trade_18 : decode cX3_trade 18 = .ok (.ifCond .ge 8, 3) := by decide +kernel
theorem dX3_trade_21 : decode cX3_trade 21 = .ok (.iload 5, 2) := by decide +kernel
theorem dX3_trade_23 : decode cX3_trade 23 = .ok (.goto 8, 3) := by decide +kernel
theorem dX3_trade_26 : decode cX3_trade 26 = .ok (.bipush (-10), 2) := by decide +kernel
theorem dX3_trade_28 : decode cX3_trade 28 = .ok (.iload 5, 2) := by decide +kernel
theorem dX3_trade_30 : decode cX3_trade 30 = .ok (.isub, 1) := by decide +kernel
theorem dX3_trade_31 : decode cX3_trade 31 = .ok (.ireturn, 1) := by decide +kernel
theorem dX3_trade_32 : decode cX3_trade 32 = .ok (.aload_n 0, 1) := by decide +kernel
theorem dX3_trade_33 : decode cX3_trade 33 = .ok (.iload_n 1, 1) := by decide +kernel
theorem dX3_trade_34 : decode cX3_trade 34 = .ok (.invokevirtual 35, 3) := by decide +kernel
theorem dX3_trade_37 : decode cX3_trade 37 = .ok (.astore 6, 2) := by decide +kernel
theorem dX3_trade_39 : decode cX3_trade 39 = .ok (.aload_n 0, 1) := by decide +kernel
theorem dX3_trade_40 : decode cX3_trade 40 = .ok (.iload_n 3, 1) := by decide +kernel
theorem dX3_trade_41 : decode cX3_trade 41 = .ok (.invokevirtual 35, 3) := by decide +kernel
theorem dX3_trade_44 : decode cX3_trade 44 = .ok (.astore 7, 2) := by decide +kernel
theorem dX3_trade_46 : decode cX3_trade 46 = .ok (.aload 6, 2) := by decide +kernel
theorem dX3_trade_48 : decode cX3_trade 48 = .ok (.ifnull 8, 3) := by decide +kernel
theorem dX3_trade_51 : decode cX3_trade 51 = .ok (.aload 7, 2) := by decide +kernel
theorem dX3_trade_53 : decode cX3_trade 53 = .ok (.ifnonnull 5, 3) := by decide +kernel
theorem dX3_trade_56 : decode cX3_trade 56 = .ok (.iconst (-1), 1) := by decide +kernel
theorem dX3_trade_57 : decode cX3_trade 57 = .ok (.ireturn, 1) := by decide +kernel
theorem dX3_trade_58 : decode cX3_trade 58 = .ok (.aload 6, 2) := by decide +kernel
theorem dX3_trade_60 : decode cX3_trade 60 = .ok (.iload_n 2, 1) := by decide +kernel
theorem dX3_trade_61 : decode cX3_trade 61 = .ok (.invokevirtual 65, 3) := by decide +kernel
theorem dX3_trade_64 : decode cX3_trade 64 = .ok (.astore 8, 2) := by decide +kernel
theorem dX3_trade_66 : decode cX3_trade 66 = .ok (.aload 7, 2) := by decide +kernel
theorem dX3_trade_68 : decode cX3_trade 68 = .ok (.invokevirtual 131, 3) := by decide +kernel
theorem dX3_trade_71 : decode cX3_trade 71 = .ok (.astore 9, 2) := by decide +kernel
theorem dX3_trade_73 : decode cX3_trade 73 = .ok (.aload 8, 2) := by decide +kernel
theorem dX3_trade_75 : decode cX3_trade 75 = .ok (.ifnull 21, 3) := by decide +kernel
theorem dX3_trade_78 : decode cX3_trade 78 = .ok (.aload 9, 2) := by decide +kernel
theorem dX3_trade_80 : decode cX3_trade 80 = .ok (.ifnull 16, 3) := by decide +kernel
theorem dX3_trade_83 : decode cX3_trade 83 = .ok (.aload 9, 2) := by decide +kernel
theorem dX3_trade_85 : decode cX3_trade 85 = .ok (.aload 8, 2) := by decide +kernel
theorem dX3_trade_87 : decode cX3_trade 87 = .ok (.invokevirtual 168, 3) := by decide +kernel
theorem dX3_trade_90 : decode cX3_trade 90 = .ok (.aload 9, 2) := by decide +kernel
theorem dX3_trade_92 : decode cX3_trade 92 = .ok (.iload_n 3, 1) := by decide +kernel
theorem dX3_trade_93 : decode cX3_trade 93 = .ok (.invokevirtual 171, 3) := by decide +kernel
theorem dX3_trade_96 : decode cX3_trade 96 = .ok (.aload 6, 2) := by decide +kernel
theorem dX3_trade_98 : decode cX3_trade 98 = .ok (.iload_n 2, 1) := by decide +kernel
theorem dX3_trade_99 : decode cX3_trade 99 = .ok (.invokevirtual 175, 3) := by decide +kernel
theorem dX3_trade_102 : decode cX3_trade 102 = .ok (.aload 6, 2) := by decide +kernel
theorem dX3_trade_104 : decode cX3_trade 104 = .ok (.dup, 1) := by decide +kernel
theorem dX3_trade_105 : decode cX3_trade 105 = .ok (.getfield 94, 3) := by decide +kernel
theorem dX3_trade_108 : decode cX3_trade 108 = .ok (.iload 4, 2) := by decide +kernel
theorem dX3_trade_110 : decode cX3_trade 110 = .ok (.isub, 1) := by decide +kernel
theorem dX3_trade_111 : decode cX3_trade 111 = .ok (.putfield 94, 3) := by decide +kernel
theorem dX3_trade_114 : decode cX3_trade 114 = .ok (.aload 7, 2) := by decide +kernel
theorem dX3_trade_116 : decode cX3_trade 116 = .ok (.dup, 1) := by decide +kernel
theorem dX3_trade_117 : decode cX3_trade 117 = .ok (.getfield 94, 3) := by decide +kernel
theorem dX3_trade_120 : decode cX3_trade 120 = .ok (.iload 4, 2) := by decide +kernel
theorem dX3_trade_122 : decode cX3_trade 122 = .ok (.iadd, 1) := by decide +kernel
theorem dX3_trade_123 : decode cX3_trade 123 = .ok (.putfield 94, 3) := by decide +kernel
theorem dX3_trade_126 : decode cX3_trade 126 = .ok (.aload_n 0, 1) := by decide +kernel
theorem dX3_trade_127 : decode cX3_trade 127 = .ok (.dup, 1) := by decide +kernel
theorem dX3_trade_128 : decode cX3_trade 128 = .ok (.getfield 62, 3) := by decide +kernel
theorem dX3_trade_131 : decode cX3_trade 131 = .ok (.iconst 1, 1) := by decide +kernel
theorem dX3_trade_132 : decode cX3_trade 132 = .ok (.iadd, 1) := by decide +kernel
theorem dX3_trade_133 : decode cX3_trade 133 = .ok (.putfield 62, 3) := by decide +kernel
theorem dX3_trade_136 : decode cX3_trade 136 = .ok (.aload 7, 2) := by decide +kernel
theorem dX3_trade_138 : decode cX3_trade 138 = .ok (.getfield 94, 3) := by decide +kernel
theorem dX3_trade_141 : decode cX3_trade 141 = .ok (.sipush 1000, 3) := by decide +kernel
theorem dX3_trade_144 : decode cX3_trade 144 = .ok (.iadd, 1) := by decide +kernel
theorem dX3_trade_145 : decode cX3_trade 145 = .ok (.ireturn, 1) := by decide +kernel
theorem dX4_init_0 : decode cX4_init 0 = .ok (.aload_n 0, 1) := by decide +kernel
theorem dX4_init_1 : decode cX4_init 1 = .ok (.invokespecial 3, 3) := by decide +kernel
theorem dX4_init_4 : decode cX4_init 4 = .ok (.aload_n 0, 1) := by decide +kernel
theorem dX4_init_5 : decode cX4_init 5 = .ok (.bipush 60, 2) := by decide +kernel
theorem dX4_init_7 : decode cX4_init 7 = .ok (.newarray .int, 2) := by decide +kernel
theorem dX4_init_9 : decode cX4_init 9 = .ok (.putfield 9, 3) := by decide +kernel
theorem dX4_init_12 : decode cX4_init 12 = .ok (.return_, 1) := by decide +kernel
theorem dX4_signAt_0 : decode cX4_signAt 0 = .ok (.iload_n 1, 1) := by decide +kernel
theorem dX4_signAt_1 : decode cX4_signAt 1 = .ok (.ifCond .lt 29, 3) := by decide +kernel
theorem dX4_signAt_4 : decode cX4_signAt 4 = .ok (.iload_n 1, 1) := by decide +kernel
theorem dX4_signAt_5 : decode cX4_signAt 5 = .ok (.aload_n 0, 1) := by decide +kernel
theorem dX4_signAt_6 : decode cX4_signAt 6 = .ok (.getfield 15, 3) := by decide +kernel
theorem dX4_signAt_9 : decode cX4_signAt 9 = .ok (.if_icmp .ge 21, 3) := by decide +kernel
theorem dX4_signAt_12 : decode cX4_signAt 12 = .ok (.iload_n 1, 1) := by decide +kernel
theorem dX4_signAt_13 : decode cX4_signAt 13 = .ok (.aload_n 0, 1) := by decide +kernel
theorem dX4_signAt_14 : decode cX4_signAt 14 = .ok (.getfield 9, 3) := by decide +kernel
theorem dX4_signAt_17 : decode cX4_signAt 17 = .ok (.arraylength, 1) := by decide +kernel
theorem dX4_signAt_18 : decode cX4_signAt 18 = .ok (.if_icmp .ge 12, 3) := by decide +kernel
theorem dX4_signAt_21 : decode cX4_signAt 21 = .ok (.aload_n 0, 1) := by decide +kernel
theorem dX4_signAt_22 : decode cX4_signAt 22 = .ok (.getfield 9, 3) := by decide +kernel
theorem dX4_signAt_25 : decode cX4_signAt 25 = .ok (.iload_n 1, 1) := by decide +kernel
theorem dX4_signAt_26 : decode cX4_signAt 26 = .ok (.iaload, 1) := by decide +kernel
theorem dX4_signAt_27 : decode cX4_signAt 27 = .ok (.goto 4, 3) := by decide +kernel
theorem dX4_signAt_30 : decode cX4_signAt 30 = .ok (.iconst 0, 1) := by decide +kernel
theorem dX4_signAt_31 : decode cX4_signAt 31 = .ok (.ireturn, 1) := by decide +kernel
theorem dX4_add_0 : decode cX4_add 0 = .ok (.aload_n 0, 1) := by decide +kernel
theorem dX4_add_1 : decode cX4_add 1 = .ok (.getfield 15, 3) := by decide +kernel
theorem dX4_add_4 : decode cX4_add 4 = .ok (.ifCond .lt 15, 3) := by decide +kernel
theorem dX4_add_7 : decode cX4_add 7 = .ok (.aload_n 0, 1) := by decide +kernel
theorem dX4_add_8 : decode cX4_add 8 = .ok (.getfield 15, 3) := by decide +kernel
theorem dX4_add_11 : decode cX4_add 11 = .ok (.aload_n 0, 1) := by decide +kernel
theorem dX4_add_12 : decode cX4_add 12 = .ok (.getfield 9, 3) := by decide +kernel
theorem dX4_add_15 : decode cX4_add 15 = .ok (.arraylength, 1) := by decide +kernel
theorem dX4_add_16 : decode cX4_add 16 = .ok (.if_icmp .lt 5, 3) := by decide +kernel
theorem dX4_add_19 : decode cX4_add 19 = .ok (.iconst 0, 1) := by decide +kernel
theorem dX4_add_20 : decode cX4_add 20 = .ok (.ireturn, 1) := by decide +kernel
theorem dX4_add_21 : decode cX4_add 21 = .ok (.aload_n 0, 1) := by decide +kernel
theorem dX4_add_22 : decode cX4_add 22 = .ok (.getfield 9, 3) := by decide +kernel
theorem dX4_add_25 : decode cX4_add 25 = .ok (.aload_n 0, 1) := by decide +kernel
theorem dX4_add_26 : decode cX4_add 26 = .ok (.getfield 15, 3) := by decide +kernel
theorem dX4_add_29 : decode cX4_add 29 = .ok (.iload_n 1, 1) := by decide +kernel
theorem dX4_add_30 : decode cX4_add 30 = .ok (.iastore, 1) := by decide +kernel
theorem dX4_add_31 : decode cX4_add 31 = .ok (.aload_n 0, 1) := by decide +kernel
theorem dX4_add_32 : decode cX4_add 32 = .ok (.dup, 1) := by decide +kernel
theorem dX4_add_33 : decode cX4_add 33 = .ok (.getfield 15, 3) := by decide +kernel
theorem dX4_add_36 : decode cX4_add 36 = .ok (.iconst 1, 1) := by decide +kernel
theorem dX4_add_37 : decode cX4_add 37 = .ok (.iadd, 1) := by decide +kernel
theorem dX4_add_38 : decode cX4_add 38 = .ok (.putfield 15, 3) := by decide +kernel
theorem dX4_add_41 : decode cX4_add 41 = .ok (.iconst 1, 1) := by decide +kernel
theorem dX4_add_42 : decode cX4_add 42 = .ok (.ireturn, 1) := by decide +kernel
theorem dX4_firstFault_0 : decode cX4_firstFault 0 = .ok (.iconst 1, 1) := by decide +kernel
theorem dX4_firstFault_1 : decode cX4_firstFault 1 = .ok (.istore_n 1, 1) := by decide +kernel
theorem dX4_firstFault_2 : decode cX4_firstFault 2 = .ok (.iconst 0, 1) := by decide +kernel
theorem dX4_firstFault_3 : decode cX4_firstFault 3 = .ok (.istore_n 2, 1) := by decide +kernel
theorem dX4_firstFault_4 : decode cX4_firstFault 4 = .ok (.iload_n 2, 1) := by decide +kernel
theorem dX4_firstFault_5 : decode cX4_firstFault 5 = .ok (.aload_n 0, 1) := by decide +kernel
theorem dX4_firstFault_6 : decode cX4_firstFault 6 = .ok (.getfield 15, 3) := by decide +kernel
theorem dX4_firstFault_9 : decode cX4_firstFault 9 = .ok (.if_icmp .ge 25, 3) := by decide +kernel
theorem dX4_firstFault_12 : decode cX4_firstFault 12 = .ok (.iload_n 1, 1) := by decide +kernel
theorem dX4_firstFault_13 : decode cX4_firstFault 13 = .ok (.aload_n 0, 1) := by decide +kernel
theorem dX4_firstFault_14 : decode cX4_firstFault 14 = .ok (.iload_n 2, 1) := by decide +kernel
theorem dX4_firstFault_15 : decode cX4_firstFault 15 = .ok (.invokevirtual 19, 3) := by decide +kernel
theorem dX4_firstFault_18 : decode cX4_firstFault 18 = .ok (.invokestatic 23, 3) := by decide +kernel
theorem dX4_firstFault_21 : decode cX4_firstFault 21 = .ok (.istore_n 1, 1) := by decide +kernel
theorem dX4_firstFault_22 : decode cX4_firstFault 22 = .ok (.iload_n 1, 1) := by decide +kernel
theorem dX4_firstFault_23 : decode cX4_firstFault 23 = .ok (.ifCond .ne 5, 3) := by decide +kernel
theorem dX4_firstFault_26 : decode cX4_firstFault 26 = .ok (.iload_n 2, 1) := by decide +kernel
theorem dX4_firstFault_27 : decode cX4_firstFault 27 = .ok (.ireturn, 1) := by decide +kernel
theorem dX4_firstFault_28 : decode cX4_firstFault 28 = .ok (.iinc 2 1, 3) := by decide +kernel
theorem dX4_firstFault_31 : decode cX4_firstFault 31 = .ok (.goto (-27), 3) := by decide +kernel
theorem dX4_firstFault_34 : decode cX4_firstFault 34 = .ok (.iload_n 1, 1) := by decide +kernel
theorem dX4_firstFault_35 : decode cX4_firstFault 35 = .ok (.iconst 1, 1) := by decide +kernel
theorem dX4_firstFault_36 : decode cX4_firstFault 36 = .ok (.if_icmp .ne 15, 3) := by decide +kernel
theorem dX4_firstFault_39 : decode cX4_firstFault 39 = .ok (.aload_n 0, 1) := by decide +kernel
theorem dX4_firstFault_40 : decode cX4_firstFault 40 = .ok (.getfield 15, 3) := by decide +kernel
theorem dX4_firstFault_43 : decode cX4_firstFault 43 = .ok (.ifCond .le 8, 3) := by decide +kernel
theorem dX4_firstFault_46 : decode cX4_firstFault 46 = .ok (.bipush (-5), 2) := by decide +kernel
theorem dX4_firstFault_48 : decode cX4_firstFault 48 = .ok (.goto 7, 3) := by decide +kernel
theorem dX4_firstFault_51 : decode cX4_firstFault 51 = .ok (.aload_n 0, 1) := by decide +kernel
theorem dX4_firstFault_52 : decode cX4_firstFault 52 = .ok (.getfield 15, 3) := by decide +kernel
theorem dX4_firstFault_55 : decode cX4_firstFault 55 = .ok (.ireturn, 1) := by decide +kernel
theorem dX4_readAfter_0 : decode cX4_readAfter 0 = .ok (.iload_n 0, 1) := by decide +kernel
theorem dX4_readAfter_1 : decode cX4_readAfter 1 = .ok (.tableswitch 224 1 9 #[51, 78, 95, 112, 124, 142, 155, 184, 212], 51) := by decide +kernel
theorem dX4_readAfter_52 : decode cX4_readAfter 52 = .ok (.iload_n 1, 1) := by decide +kernel
theorem dX4_readAfter_53 : decode cX4_readAfter 53 = .ok (.bipush 40, 2) := by decide +kernel
theorem dX4_readAfter_55 : decode cX4_readAfter 55 = .ok (.if_icmp .ne 7, 3) := by decide +kernel
theorem dX4_readAfter_58 : decode cX4_readAfter 58 = .ok (.iconst 2, 1) := by decide +kernel
theorem dX4_readAfter_59 : decode cX4_readAfter 59 = .ok (.goto 19, 3) := by decide +kernel
theorem dX4_readAfter_62 : decode cX4_readAfter 62 = .ok (.bipush 49, 2) := by decide +kernel
theorem dX4_readAfter_64 : decode cX4_readAfter 64 = .ok (.iload_n 1, 1) := by decide +kernel
theorem dX4_readAfter_65 : decode cX4_readAfter 65 = .ok (.bipush 54, 2) := by decide +kernel
theorem dX4_readAfter_67 : decode cX4_readAfter 67 = .ok (.invokestatic 27, 3) := by decide +kernel
theorem dX4_readAfter_70 : decode cX4_readAfter 70 = .ok (.ifCond .eq 7, 3) := by decide +kernel
theorem dX4_readAfter_73 : decode cX4_readAfter 73 = .ok (.iconst 1, 1) := by decide +kernel
theorem dX4_readAfter_74 : decode cX4_readAfter 74 = .ok (.goto 4, 3) := by decide +kernel
theorem dX4_readAfter_77 : decode cX4_readAfter 77 = .ok (.iconst 0, 1) := by decide +kernel
theorem dX4_readAfter_78 : decode cX4_readAfter 78 = .ok (.ireturn, 1) := by decide +kernel
theorem dX4_readAfter_79 : decode cX4_readAfter 79 = .ok (.bipush 48, 2) := by decide +kernel
theorem dX4_readAfter_81 : decode cX4_readAfter 81 = .ok (.iload_n 1, 1) := by decide +kernel
theorem dX4_readAfter_82 : decode cX4_readAfter 82 = .ok (.bipush 51, 2) := by decide +kernel
theorem dX4_readAfter_84 : decode cX4_readAfter 84 = .ok (.invokestatic 27, 3) := by decide +kernel
theorem dX4_readAfter_87 : decode cX4_readAfter 87 = .ok (.ifCond .eq 7, 3) := by decide +kernel
theorem dX4_readAfter_90 : decode cX4_readAfter 90 = .ok (.iconst 3, 1) := by decide +kernel
theorem dX4_readAfter_91 : decode cX4_readAfter 91 = .ok (.goto 4, 3) := by decide +kernel
theorem dX4_readAfter_94 : decode cX4_readAfter 94 = .ok (.iconst 0, 1) := by decide +kernel
theorem dX4_readAfter_95 : decode cX4_readAfter 95 = .ok (.ireturn, 1) := by decide +kernel
theorem dX4_readAfter_96 : decode cX4_readAfter 96 = .ok (.bipush 97, 2) := by decide +kernel
theorem dX4_readAfter_98 : decode cX4_readAfter 98 = .ok (.iload_n 1, 1) := by decide +kernel
theorem dX4_readAfter_99 : decode cX4_readAfter 99 = .ok (.bipush 104, 2) := by decide +kernel
theorem dX4_readAfter_101 : decode cX4_readAfter 101 = .ok (.invokestatic 27, 3) := by decide +kernel
theorem dX4_readAfter_104 : decode cX4_readAfter 104 = .ok (.ifCond .eq 7, 3) := by decide +kernel
theorem dX4_readAfter_107 : decode cX4_readAfter 107 = .ok (.iconst 4, 1) := by decide +kernel
theorem dX4_readAfter_108 : decode cX4_readAfter 108 = .ok (.goto 4, 3) := by decide +kernel
theorem dX4_readAfter_111 : decode cX4_readAfter 111 = .ok (.iconst 0, 1) := by decide +kernel
theorem dX4_readAfter_112 : decode cX4_readAfter 112 = .ok (.ireturn, 1) := by decide +kernel
theorem dX4_readAfter_113 : decode cX4_readAfter 113 = .ok (.iload_n 1, 1) := by decide +kernel
theorem dX4_readAfter_114 : decode cX4_readAfter 114 = .ok (.bipush 62, 2) := by decide +kernel
theorem dX4_readAfter_116 : decode cX4_readAfter 116 = .ok (.if_icmp .ne 7, 3) := by decide +kernel
theorem dX4_readAfter_119 : decode cX4_readAfter 119 = .ok (.iconst 5, 1) := by decide +kernel
theorem dX4_readAfter_120 : decode cX4_readAfter 120 = .ok (.goto 4, 3) := by decide +kernel
theorem dX4_readAfter_123 : decode cX4_readAfter 123 = .ok (.iconst 0, 1) := by decide +kernel
theorem dX4_readAfter_124 : decode cX4_readAfter 124 = .ok (.ireturn, 1) := by decide +kernel
theorem dX4_readAfter_125 : decode cX4_readAfter 125 = .ok (.bipush 48, 2) := by decide +kernel
theorem dX4_readAfter_127 : decode cX4_readAfter 127 = .ok (.iload_n 1, 1) := by decide +kernel
theorem dX4_readAfter_128 : decode cX4_readAfter 128 = .ok (.bipush 51, 2) := by decide +kernel
theorem dX4_readAfter_130 : decode cX4_readAfter 130 = .ok (.invokestatic 27, 3) := by decide +kernel
theorem dX4_readAfter_133 : decode cX4_readAfter 133 = .ok (.ifCond .eq 8, 3) := by decide +kernel
theorem dX4_readAfter_136 : decode cX4_readAfter 136 = .ok (.bipush 6, 2) := by decide +kernel
theorem dX4_readAfter_138 : decode cX4_readAfter 138 = .ok (.goto 4, 3) := by decide +kernel
theorem dX4_readAfter_141 : decode cX4_readAfter 141 = .ok (.iconst 0, 1) := by decide +kernel
theorem dX4_readAfter_142 : decode cX4_readAfter 142 = .ok (.ireturn, 1) := by decide +kernel
theorem dX4_readAfter_143 : decode cX4_readAfter 143 = .ok (.iload_n 1, 1) := by decide +kernel
theorem dX4_readAfter_144 : decode cX4_readAfter 144 = .ok (.bipush 36, 2) := by decide +kernel
theorem dX4_readAfter_146 : decode cX4_readAfter 146 = .ok (.if_icmp .ne 8, 3) := by decide +kernel
theorem dX4_readAfter_149 : decode cX4_readAfter 149 = .ok (.bipush 7, 2) := by decide +kernel
theorem dX4_readAfter_151 : decode cX4_readAfter 151 = .ok (.goto 4, 3) := by decide +kernel
theorem dX4_readAfter_154 : decode cX4_readAfter 154 = .ok (.iconst 0, 1) := by decide +kernel
theorem dX4_readAfter_155 : decode cX4_readAfter 155 = .ok (.ireturn, 1) := by decide +kernel
theorem dX4_readAfter_156 : decode cX4_readAfter 156 = .ok (.iload_n 1, 1) := by decide +kernel
theorem dX4_readAfter_157 : decode cX4_readAfter 157 = .ok (.bipush 48, 2) := by decide +kernel
theorem dX4_readAfter_159 : decode cX4_readAfter 159 = .ok (.if_icmp .ne 8, 3) := by decide +kernel
theorem dX4_readAfter_162 : decode cX4_readAfter 162 = .ok (.bipush 9, 2) := by decide +kernel
theorem dX4_readAfter_164 : decode cX4_readAfter 164 = .ok (.goto 20, 3) := by decide +kernel
theorem dX4_readAfter_167 : decode cX4_readAfter 167 = .ok (.bipush 49, 2) := by decide +kernel
theorem dX4_readAfter_169 : decode cX4_readAfter 169 = .ok (.iload_n 1, 1) := by decide +kernel
theorem dX4_readAfter_170 : decode cX4_readAfter 170 = .ok (.bipush 57, 2) := by decide +kernel
theorem dX4_readAfter_172 : decode cX4_readAfter 172 = .ok (.invokestatic 27, 3) := by decide +kernel
theorem dX4_readAfter_175 : decode cX4_readAfter 175 = .ok (.ifCond .eq 8, 3) := by decide +kernel
theorem dX4_readAfter_178 : decode cX4_readAfter 178 = .ok (.bipush 8, 2) := by decide +kernel
theorem dX4_readAfter_180 : decode cX4_readAfter 180 = .ok (.goto 4, 3) := by decide +kernel
theorem dX4_readAfter_183 : decode cX4_readAfter 183 = .ok (.iconst 0, 1) := by decide +kernel
theorem dX4_readAfter_184 : decode cX4_readAfter 184 = .ok (.ireturn, 1) := by decide +kernel
theorem dX4_readAfter_185 : decode cX4_readAfter 185 = .ok (.iload_n 1, 1) := by decide +kernel
theorem dX4_readAfter_186 : decode cX4_readAfter 186 = .ok (.bipush 41, 2) := by decide +kernel
theorem dX4_readAfter_188 : decode cX4_readAfter 188 = .ok (.if_icmp .ne 7, 3) := by decide +kernel
theorem dX4_readAfter_191 : decode cX4_readAfter 191 = .ok (.iconst 1, 1) := by decide +kernel
theorem dX4_readAfter_192 : decode cX4_readAfter 192 = .ok (.goto 20, 3) := by decide +kernel
theorem dX4_readAfter_195 : decode cX4_readAfter 195 = .ok (.bipush 48, 2) := by decide +kernel
theorem dX4_readAfter_197 : decode cX4_readAfter 197 = .ok (.iload_n 1, 1) := by decide +kernel
theorem dX4_readAfter_198 : decode cX4_readAfter 198 = .ok (.bipush 57, 2) := by decide +kernel
theorem dX4_readAfter_200 : decode cX4_readAfter 200 = .ok (.invokestatic 27, 3) := by decide +kernel
theorem dX4_readAfter_203 : decode cX4_readAfter 203 = .ok (.ifCond .eq 8, 3) := by decide +kernel
theorem dX4_readAfter_206 : decode cX4_readAfter 206 = .ok (.bipush 9, 2) := by decide +kernel
theorem dX4_readAfter_208 : decode cX4_readAfter 208 = .ok (.goto 4, 3) := by decide +kernel
theorem dX4_readAfter_211 : decode cX4_readAfter 211 = .ok (.iconst 0, 1) := by decide +kernel
theorem dX4_readAfter_212 : decode cX4_readAfter 212 = .ok (.ireturn, 1) := by decide +kernel
theorem dX4_readAfter_213 : decode cX4_readAfter 213 = .ok (.iload_n 1, 1) := by decide +kernel
theorem dX4_readAfter_214 : decode cX4_readAfter 214 = .ok (.bipush 41, 2) := by decide +kernel
theorem dX4_readAfter_216 : decode cX4_readAfter 216 = .ok (.if_icmp .ne 7, 3) := by decide +kernel
theorem dX4_readAfter_219 : decode cX4_readAfter 219 = .ok (.iconst 1, 1) := by decide +kernel
theorem dX4_readAfter_220 : decode cX4_readAfter 220 = .ok (.goto 4, 3) := by decide +kernel
theorem dX4_readAfter_223 : decode cX4_readAfter 223 = .ok (.iconst 0, 1) := by decide +kernel
theorem dX4_readAfter_224 : decode cX4_readAfter 224 = .ok (.ireturn, 1) := by decide +kernel
theorem dX4_readAfter_225 : decode cX4_readAfter 225 = .ok (.iconst 0, 1) := by decide +kernel
theorem dX4_readAfter_226 : decode cX4_readAfter 226 = .ok (.ireturn, 1) := by decide +kernel
theorem dX4_isFrom_0 : decode cX4_isFrom 0 = .ok (.iload_n 1, 1) := by decide +kernel
theorem dX4_isFrom_1 : decode cX4_isFrom 1 = .ok (.iload_n 0, 1) := by decide +kernel
theorem dX4_isFrom_2 : decode cX4_isFrom 2 = .ok (.if_icmp .lt 12, 3) := by decide +kernel
theorem dX4_isFrom_5 : decode cX4_isFrom 5 = .ok (.iload_n 1, 1) := by decide +kernel
theorem dX4_isFrom_6 : decode cX4_isFrom 6 = .ok (.iload_n 2, 1) := by decide +kernel
theorem dX4_isFrom_7 : decode cX4_isFrom 7 = .ok (.if_icmp .gt 7, 3) := by decide +kernel
theorem dX4_isFrom_10 : decode cX4_isFrom 10 = .ok (.iconst 1, 1) := by decide +kernel
theorem dX4_isFrom_11 : decode cX4_isFrom 11 = .ok (.goto 4, 3) := by decide +kernel
theorem dX4_isFrom_14 : decode cX4_isFrom 14 = .ok (.iconst 0, 1) := by decide +kernel
theorem dX4_isFrom_15 : decode cX4_isFrom 15 = .ok (.ireturn, 1) := by decide +kernel
theorem dX4_carryOut_0 : decode cX4_carryOut 0 = .ok (.iconst 0, 1) := by decide +kernel
theorem dX4_carryOut_1 : decode cX4_carryOut 1 = .ok (.istore_n 2, 1) := by decide +kernel
theorem dX4_carryOut_2 : decode cX4_carryOut 2 = .ok (.bipush (-5), 2) := by decide +kernel
theorem dX4_carryOut_4 : decode cX4_carryOut 4 = .ok (.istore_n 3, 1) := by decide +kernel
theorem dX4_carryOut_5 : decode cX4_carryOut 5 = .ok (.iconst 0, 1) := by decide +kernel
theorem dX4_carryOut_6 : decode cX4_carryOut 6 = .ok (.istore 4, 2) := by decide +kernel
theorem dX4_carryOut_8 : decode cX4_carryOut 8 = .ok (.iload 4, 2) := by decide +kernel
theorem dX4_carryOut_10 : decode cX4_carryOut 10 = .ok (.aload_n 0, 1) := by decide +kernel
theorem dX4_carryOut_11 : decode cX4_carryOut 11 = .ok (.getfield 15, 3) := by decide +kernel
theorem dX4_carryOut_14 : decode cX4_carryOut 14 = .ok (.if_icmp .ge 81, 3) := by decide +kernel
theorem dX4_carryOut_17 : decode cX4_carryOut 17 = .ok (.aload_n 0, 1) := by decide +kernel
theorem dX4_carryOut_18 : decode cX4_carryOut 18 = .ok (.iload 4, 2) := by decide +kernel
theorem dX4_carryOut_20 : decode cX4_carryOut 20 = .ok (.invokevirtual 19, 3) := by decide +kernel
theorem dX4_carryOut_23 : decode cX4_carryOut 23 = .ok (.istore 5, 2) := by decide +kernel
theorem dX4_carryOut_25 : decode cX4_carryOut 25 = .ok (.iload 5, 2) := by decide +kernel
theorem dX4_carryOut_27 : decode cX4_carryOut 27 = .ok (.bipush 40, 2) := by decide +kernel
theorem dX4_carryOut_29 : decode cX4_carryOut 29 = .ok (.if_icmp .ne 6, 3) := by decide +kernel
theorem dX4_carryOut_32 : decode cX4_carryOut 32 = .ok (.iload 4, 2) := by decide +kernel
theorem dX4_carryOut_34 : decode cX4_carryOut 34 = .ok (.istore_n 3, 1) := by decide +kernel
theorem dX4_carryOut_35 : decode cX4_carryOut 35 = .ok (.iload_n 3, 1) := by decide +kernel
theorem dX4_carryOut_36 : decode cX4_carryOut 36 = .ok (.bipush (-5), 2) := by decide +kernel
theorem dX4_carryOut_38 : decode cX4_carryOut 38 = .ok (.if_icmp .eq 10, 3) := by decide +kernel
theorem dX4_carryOut_41 : decode cX4_carryOut 41 = .ok (.iload 5, 2) := by decide +kernel
theorem dX4_carryOut_43 : decode cX4_carryOut 43 = .ok (.bipush 41, 2) := by decide +kernel
theorem dX4_carryOut_45 : decode cX4_carryOut 45 = .ok (.if_icmp .ne 44, 3) := by decide +kernel
theorem dX4_carryOut_48 : decode cX4_carryOut 48 = .ok (.iload_n 3, 1) := by decide +kernel
theorem dX4_carryOut_49 : decode cX4_carryOut 49 = .ok (.bipush (-5), 2) := by decide +kernel
theorem dX4_carryOut_51 : decode cX4_carryOut 51 = .ok (.if_icmp .ne 15, 3) := by decide +kernel
theorem dX4_carryOut_54 : decode cX4_carryOut 54 = .ok (.aload_n 1, 1) := by decide +kernel
theorem dX4_carryOut_55 : decode cX4_carryOut 55 = .ok (.iload 5, 2) := by decide +kernel
theorem dX4_carryOut_57 : decode cX4_carryOut 57 = .ok (.bipush 48, 2) := by decide +kernel
theorem dX4_carryOut_59 : decode cX4_carryOut 59 = .ok (.isub, 1) := by decide +kernel
theorem dX4_carryOut_60 : decode cX4_carryOut 60 = .ok (.invokevirtual 31, 3) := by decide +kernel
theorem dX4_carryOut_63 : decode cX4_carryOut 63 = .ok (.goto 11, 3) := by decide +kernel
theorem dX4_carryOut_66 : decode cX4_carryOut 66 = .ok (.aload_n 0, 1) := by decide +kernel
theorem dX4_carryOut_67 : decode cX4_carryOut 67 = .ok (.aload_n 1, 1) := by decide +kernel
theorem dX4_carryOut_68 : decode cX4_carryOut 68 = .ok (.iload_n 3, 1) := by decide +kernel
theorem dX4_carryOut_69 : decode cX4_carryOut 69 = .ok (.iload 4, 2) := by decide +kernel
theorem dX4_carryOut_71 : decode cX4_carryOut 71 = .ok (.invokevirtual 36, 3) := by decide +kernel
theorem dX4_carryOut_74 : decode cX4_carryOut 74 = .ok (.istore 6, 2) := by decide +kernel
theorem dX4_carryOut_76 : decode cX4_carryOut 76 = .ok (.iload 6, 2) := by decide +kernel
theorem dX4_carryOut_78 : decode cX4_carryOut 78 = .ok (.ifCond .ge 5, 3) := by decide +kernel
theorem dX4_carryOut_81 : decode cX4_carryOut 81 = .ok (.iload_n 2, 1) := by decide +kernel
theorem dX4_carryOut_82 : decode cX4_carryOut 82 = .ok (.ireturn, 1) := by decide +kernel
theorem dX4_carryOut_83 : decode cX4_carryOut 83 = .ok (.iinc 2 1, 3) := by decide +kernel
theorem dX4_carryOut_86 : decode cX4_carryOut 86 = .ok (.bipush (-5), 2) := by decide +kernel
theorem dX4_carryOut_88 : decode cX4_carryOut 88 = .ok (.istore_n 3, 1) := by decide +kernel
theorem dX4_carryOut_89 : decode cX4_carryOut 89 = .ok (.iinc 4 1, 3) := by decide +kernel
theorem dX4_carryOut_92 : decode cX4_carryOut 92 = .ok (.goto (-84), 3) := by decide +kernel
theorem dX4_carryOut_95 : decode cX4_carryOut 95 = .ok (.iload_n 2, 1) := by decide +kernel
theorem dX4_carryOut_96 : decode cX4_carryOut 96 = .ok (.ireturn, 1) := by decide +kernel
theorem dX4_tradeFrom_0 : decode cX4_tradeFrom 0 = .ok (.aload_n 0, 1) := by decide +kernel
theorem dX4_tradeFrom_1 : decode cX4_tradeFrom 1 = .ok (.iload_n 2, 1) := by decide +kernel
theorem dX4_tradeFrom_2 : decode cX4_tradeFrom 2 = .ok (.iconst 1, 1) := by decide +kernel
theorem dX4_tradeFrom_3 : decode cX4_tradeFrom 3 = .ok (.iadd, 1) := by decide +kernel
theorem dX4_tradeFrom_4 : decode cX4_tradeFrom 4 = .ok (.invokevirtual 19, 3) := by decide +kernel
theorem dX4_tradeFrom_7 : decode cX4_tradeFrom 7 = .ok (.bipush 48, 2) := by decide +kernel
theorem dX4_tradeFrom_9 : decode cX4_tradeFrom 9 = .ok (.isub, 1) := by decide +kernel
theorem dX4_tradeFrom_10 : decode cX4_tradeFrom 10 = .ok (.istore 4, 2) := by decide +kernel
theorem dX4_tradeFrom_12 : decode cX4_tradeFrom 12 = .ok (.aload_n 0, 1) := by decide +kernel
theorem dX4_tradeFrom_13 : decode cX4_tradeFrom 13 = .ok (.iload_n 2, 1) := by decide +kernel
theorem dX4_tradeFrom_14 : decode cX4_tradeFrom 14 = .ok (.iconst 2, 1) := by decide +kernel
theorem dX4_tradeFrom_15 : decode cX4_tradeFrom 15 = .ok (.iadd, 1) := by decide +kernel
theorem dX4_tradeFrom_16 : decode cX4_tradeFrom 16 = .ok (.invokevirtual 19, 3) := by decide +kernel
theorem dX4_tradeFrom_19 : decode cX4_tradeFrom 19 = .ok (.bipush 97, 2) := by decide +kernel
theorem dX4_tradeFrom_21 : decode cX4_tradeFrom 21 = .ok (.isub, 1) := by decide +kernel
theorem dX4_tradeFrom_22 : decode cX4_tradeFrom 22 = .ok (.istore 5, 2) := by decide +kernel
theorem dX4_tradeFrom_24 : decode cX4_tradeFrom 24 = .ok (.aload_n 0, 1) := by decide +kernel
theorem dX4_tradeFrom_25 : decode cX4_tradeFrom 25 = .ok (.iload_n 2, 1) := by decide +kernel
theorem dX4_tradeFrom_26 : decode cX4_tradeFrom 26 = .ok (.iconst 4, 1) := by decide +kernel
theorem dX4_tradeFrom_27 : decode cX4_tradeFrom 27 = .ok (.iadd, 1) := by decide +kernel
theorem dX4_tradeFrom_28 : decode cX4_tradeFrom 28 = .ok (.invokevirtual 19, 3) := by decide +kernel
theorem dX4_tradeFrom_31 : decode cX4_tradeFrom 31 = .ok (.bipush 48, 2) := by decide +kernel
theorem dX4_tradeFrom_33 : decode cX4_tradeFrom 33 = .ok (.isub, 1) := by decide +kernel
theorem dX4_tradeFrom_34 : decode cX4_tradeFrom 34 = .ok (.istore 6, 2) := by decide +kernel
theorem dX4_tradeFrom_36 : decode cX4_tradeFrom 36 = .ok (.iconst 0, 1) := by decide +kernel
theorem dX4_tradeFrom_37 : decode cX4_tradeFrom 37 = .ok (.istore 7, 2) := by decide +kernel
theorem dX4_tradeFrom_39 : decode cX4_tradeFrom 39 = .ok (.iload_n 2, 1) := by decide +kernel
theorem dX4_tradeFrom_40 : decode cX4_tradeFrom 40 = .ok (.bipush 6, 2) := by decide +kernel
theorem dX4_tradeFrom_42 : decode cX4_tradeFrom 42 = .ok (.iadd, 1) := by decide +kernel
theorem dX4_tradeFrom_43 : decode cX4_tradeFrom 43 = .ok (.istore 8, 2) := by decide +kernel
theorem dX4_tradeFrom_45 : decode cX4_tradeFrom 45 = .ok (.iload 8, 2) := by decide +kernel
theorem dX4_tradeFrom_47 : decode cX4_tradeFrom 47 = .ok (.iload_n 3, 1) := by decide +kernel
theorem dX4_tradeFrom_48 : decode cX4_tradeFrom 48 = .ok (.if_icmp .ge 26, 3) := by decide +kernel
theorem dX4_tradeFrom_51 : decode cX4_tradeFrom 51 = .ok (.bipush 10, 2) := by decide +kernel
theorem dX4_tradeFrom_53 : decode cX4_tradeFrom 53 = .ok (.iload 7, 2) := by decide +kernel
theorem dX4_tradeFrom_55 : decode cX4_tradeFrom 55 = .ok (.imul, 1) := by decide +kernel
theorem dX4_tradeFrom_56 : decode cX4_tradeFrom 56 = .ok (.aload_n 0, 1) := by decide +kernel
theorem dX4_tradeFrom_57 : decode cX4_tradeFrom 57 = .ok (.iload 8, 2) := by decide +kernel
theorem dX4_tradeFrom_59 : decode cX4_tradeFrom 59 = .ok (.invokevirtual 19, 3) := by decide +kernel
theorem dX4_tradeFrom_62 : decode cX4_tradeFrom 62 = .ok (.iadd, 1) := by decide +kernel
theorem dX4_tradeFrom_63 : decode cX4_tradeFrom 63 = .ok (.bipush 48, 2) := by decide +kernel
theorem dX4_tradeFrom_65 : decode cX4_tradeFrom 65 = .ok (.isub, 1) := by decide +kernel
theorem dX4_tradeFrom_66 : decode cX4_tradeFrom 66 = .ok (.istore 7, 2) := by decide +kernel
theorem dX4_tradeFrom_68 : decode cX4_tradeFrom 68 = .ok (.iinc 8 1, 3) := by decide +kernel
theorem dX4_tradeFrom_71 : decode cX4_tradeFrom 71 = .ok (.goto (-26), 3) := by decide +kernel
theorem dX4_tradeFrom_74 : decode cX4_tradeFrom 74 = .ok (.aload_n 1, 1) := by decide +kernel
theorem dX4_tradeFrom_75 : decode cX4_tradeFrom 75 = .ok (.iload 4, 2) := by decide +kernel
theorem dX4_tradeFrom_77 : decode cX4_tradeFrom 77 = .ok (.iload 5, 2) := by decide +kernel
theorem dX4_tradeFrom_79 : decode cX4_tradeFrom 79 = .ok (.iload 6, 2) := by decide +kernel
theorem dX4_tradeFrom_81 : decode cX4_tradeFrom 81 = .ok (.iload 7, 2) := by decide +kernel
theorem dX4_tradeFrom_83 : decode cX4_tradeFrom 83 = .ok (.invokevirtual 40, 3) := by decide +kernel
theorem dX4_tradeFrom_86 : decode cX4_tradeFrom 86 = .ok (.ireturn, 1) := by decide +kernel
theorem dX5_init_0 : decode cX5_init 0 = .ok (.aload_n 0, 1) := by decide +kernel
theorem dX5_init_1 : decode cX5_init 1 = .ok (.invokespecial 3, 3) := by decide +kernel
theorem dX5_init_4 : decode cX5_init 4 = .ok (.aload_n 0, 1) := by decide +kernel
theorem dX5_init_5 : decode cX5_init 5 = .ok (.bipush 61, 2) := by decide +kernel
theorem dX5_init_7 : decode cX5_init 7 = .ok (.newarray .int, 2) := by decide +kernel
theorem dX5_init_9 : decode cX5_init 9 = .ok (.putfield 9, 3) := by decide +kernel
theorem dX5_init_12 : decode cX5_init 12 = .ok (.aload_n 0, 1) := by decide +kernel
theorem dX5_init_13 : decode cX5_init 13 = .ok (.bipush 61, 2) := by decide +kernel
theorem dX5_init_15 : decode cX5_init 15 = .ok (.newarray .int, 2) := by decide +kernel
theorem dX5_init_17 : decode cX5_init 17 = .ok (.putfield 15, 3) := by decide +kernel
theorem dX5_init_20 : decode cX5_init 20 = .ok (.return_, 1) := by decide +kernel
theorem dX5_onFrom_0 : decode cX5_onFrom 0 = .ok (.aload_n 0, 1) := by decide +kernel
theorem dX5_onFrom_1 : decode cX5_onFrom 1 = .ok (.iload_n 2, 1) := by decide +kernel
theorem dX5_onFrom_2 : decode cX5_onFrom 2 = .ok (.invokevirtual 18, 3) := by decide +kernel
theorem dX5_onFrom_5 : decode cX5_onFrom 5 = .ok (.iconst 0, 1) := by decide +kernel
theorem dX5_onFrom_6 : decode cX5_onFrom 6 = .ok (.istore_n 3, 1) := by decide +kernel
theorem dX5_onFrom_7 : decode cX5_onFrom 7 = .ok (.iload_n 3, 1) := by decide +kernel
theorem dX5_onFrom_8 : decode cX5_onFrom 8 = .ok (.aload_n 0, 1) := by decide +kernel
theorem dX5_onFrom_9 : decode cX5_onFrom 9 = .ok (.getfield 22, 3) := by decide +kernel
theorem dX5_onFrom_12 : decode cX5_onFrom 12 = .ok (.if_icmp .ge 79, 3) := by decide +kernel
theorem dX5_onFrom_15 : decode cX5_onFrom 15 = .ok (.iload_n 3, 1) := by decide +kernel
theorem dX5_onFrom_16 : decode cX5_onFrom 16 = .ok (.aload_n 0, 1) := by decide +kernel
theorem dX5_onFrom_17 : decode cX5_onFrom 17 = .ok (.getfield 15, 3) := by decide +kernel
theorem dX5_onFrom_20 : decode cX5_onFrom 20 = .ok (.arraylength, 1) := by decide +kernel
theorem dX5_onFrom_21 : decode cX5_onFrom 21 = .ok (.if_icmp .ge 70, 3) := by decide +kernel
theorem dX5_onFrom_24 : decode cX5_onFrom 24 = .ok (.aload_n 0, 1) := by decide +kernel
theorem dX5_onFrom_25 : decode cX5_onFrom 25 = .ok (.getfield 15, 3) := by decide +kernel
theorem dX5_onFrom_28 : decode cX5_onFrom 28 = .ok (.iload_n 3, 1) := by decide +kernel
theorem dX5_onFrom_29 : decode cX5_onFrom 29 = .ok (.iaload, 1) := by decide +kernel
theorem dX5_onFrom_30 : decode cX5_onFrom 30 = .ok (.istore 4, 2) := by decide +kernel
theorem dX5_onFrom_32 : decode cX5_onFrom 32 = .ok (.iload 4, 2) := by decide +kernel
theorem dX5_onFrom_34 : decode cX5_onFrom 34 = .ok (.bipush 60, 2) := by decide +kernel
theorem dX5_onFrom_36 : decode cX5_onFrom 36 = .ok (.if_icmp .ne 10, 3) := by decide +kernel
theorem dX5_onFrom_39 : decode cX5_onFrom 39 = .ok (.aload_n 0, 1) := by decide +kernel
theorem dX5_onFrom_40 : decode cX5_onFrom 40 = .ok (.iload 4, 2) := by decide +kernel
theorem dX5_onFrom_42 : decode cX5_onFrom 42 = .ok (.invokevirtual 26, 3) := by decide +kernel
theorem dX5_onFrom_45 : decode cX5_onFrom 45 = .ok (.ireturn, 1) := by decide +kernel
theorem dX5_onFrom_46 : decode cX5_onFrom 46 = .ok (.iconst 1, 1) := by decide +kernel
theorem dX5_onFrom_47 : decode cX5_onFrom 47 = .ok (.istore 5, 2) := by decide +kernel
theorem dX5_onFrom_49 : decode cX5_onFrom 49 = .ok (.iload 5, 2) := by decide +kernel
theorem dX5_onFrom_51 : decode cX5_onFrom 51 = .ok (.bipush 6, 2) := by decide +kernel
theorem dX5_onFrom_53 : decode cX5_onFrom 53 = .ok (.if_icmp .gt 32, 3) := by decide +kernel
theorem dX5_onFrom_56 : decode cX5_onFrom 56 = .ok (.aload_n 0, 1) := by decide +kernel
theorem dX5_onFrom_57 : decode cX5_onFrom 57 = .ok (.aload_n 1, 1) := by decide +kernel
theorem dX5_onFrom_58 : decode cX5_onFrom 58 = .ok (.iload 4, 2) := by decide +kernel
theorem dX5_onFrom_60 : decode cX5_onFrom 60 = .ok (.iload 5, 2) := by decide +kernel
theorem dX5_onFrom_62 : decode cX5_onFrom 62 = .ok (.invokestatic 30, 3) := by decide +kernel
theorem dX5_onFrom_65 : decode cX5_onFrom 65 = .ok (.invokevirtual 34, 3) := by decide +kernel
theorem dX5_onFrom_68 : decode cX5_onFrom 68 = .ok (.aload_n 0, 1) := by decide +kernel
theorem dX5_onFrom_69 : decode cX5_onFrom 69 = .ok (.iload 4, 2) := by decide +kernel
theorem dX5_onFrom_71 : decode cX5_onFrom 71 = .ok (.invokevirtual 26, 3) := by decide +kernel
theorem dX5_onFrom_74 : decode cX5_onFrom 74 = .ok (.iconst 1, 1) := by decide +kernel
theorem dX5_onFrom_75 : decode cX5_onFrom 75 = .ok (.iadd, 1) := by decide +kernel
theorem dX5_onFrom_76 : decode cX5_onFrom 76 = .ok (.invokevirtual 39, 3) := by decide +kernel
theorem dX5_onFrom_79 : decode cX5_onFrom 79 = .ok (.iinc 5 1, 3) := by decide +kernel
theorem dX5_onFrom_82 : decode cX5_onFrom 82 = .ok (.goto (-33), 3) := by decide +kernel
theorem dX5_onFrom_85 : decode cX5_onFrom 85 = .ok (.iinc 3 1, 3) := by decide +kernel
theorem dX5_onFrom_88 : decode cX5_onFrom 88 = .ok (.goto (-81), 3) := by decide +kernel
theorem dX5_onFrom_91 : decode cX5_onFrom 91 = .ok (.bipush (-5), 2) := by decide +kernel
theorem dX5_onFrom_93 : decode cX5_onFrom 93 = .ok (.ireturn, 1) := by decide +kernel
theorem dX5_backTo_0 : decode cX5_backTo 0 = .ok (.aload_n 0, 1) := by decide +kernel
theorem dX5_backTo_1 : decode cX5_backTo 1 = .ok (.bipush 60, 2) := by decide +kernel
theorem dX5_backTo_3 : decode cX5_backTo 3 = .ok (.invokevirtual 18, 3) := by decide +kernel
theorem dX5_backTo_6 : decode cX5_backTo 6 = .ok (.iconst 0, 1) := by decide +kernel
theorem dX5_backTo_7 : decode cX5_backTo 7 = .ok (.istore_n 3, 1) := by decide +kernel
theorem dX5_backTo_8 : decode cX5_backTo 8 = .ok (.iload_n 3, 1) := by decide +kernel
theorem dX5_backTo_9 : decode cX5_backTo 9 = .ok (.aload_n 0, 1) := by decide +kernel
theorem dX5_backTo_10 : decode cX5_backTo 10 = .ok (.getfield 22, 3) := by decide +kernel
theorem dX5_backTo_13 : decode cX5_backTo 13 = .ok (.if_icmp .ge 46, 3) := by decide +kernel
theorem dX5_backTo_16 : decode cX5_backTo 16 = .ok (.iload_n 3, 1) := by decide +kernel
theorem dX5_backTo_17 : decode cX5_backTo 17 = .ok (.aload_n 0, 1) := by decide +kernel
theorem dX5_backTo_18 : decode cX5_backTo 18 = .ok (.getfield 15, 3) := by decide +kernel
theorem dX5_backTo_21 : decode cX5_backTo 21 = .ok (.arraylength, 1) := by decide +kernel
theorem dX5_backTo_22 : decode cX5_backTo 22 = .ok (.if_icmp .ge 37, 3) := by decide +kernel
theorem dX5_backTo_25 : decode cX5_backTo 25 = .ok (.aload_n 0, 1) := by decide +kernel
theorem dX5_backTo_26 : decode cX5_backTo 26 = .ok (.getfield 15, 3) := by decide +kernel
theorem dX5_backTo_29 : decode cX5_backTo 29 = .ok (.iload_n 3, 1) := by decide +kernel
theorem dX5_backTo_30 : decode cX5_backTo 30 = .ok (.iaload, 1) := by decide +kernel
theorem dX5_backTo_31 : decode cX5_backTo 31 = .ok (.istore 4, 2) := by decide +kernel
theorem dX5_backTo_33 : decode cX5_backTo 33 = .ok (.iload 4, 2) := by decide +kernel
theorem dX5_backTo_35 : decode cX5_backTo 35 = .ok (.iload_n 2, 1) := by decide +kernel
theorem dX5_backTo_36 : decode cX5_backTo 36 = .ok (.if_icmp .ne 10, 3) := by decide +kernel
theorem dX5_backTo_39 : decode cX5_backTo 39 = .ok (.aload_n 0, 1) := by decide +kernel
theorem dX5_backTo_40 : decode cX5_backTo 40 = .ok (.iload 4, 2) := by decide +kernel
theorem dX5_backTo_42 : decode cX5_backTo 42 = .ok (.invokevirtual 26, 3) := by decide +kernel
theorem dX5_backTo_45 : decode cX5_backTo 45 = .ok (.ireturn, 1) := by decide +kernel
theorem dX5_backTo_46 : decode cX5_backTo 46 = .ok (.aload_n 0, 1) := by decide +kernel
theorem dX5_backTo_47 : decode cX5_backTo 47 = .ok (.iload 4, 2) := by decide +kernel
theorem dX5_backTo_49 : decode cX5_backTo 49 = .ok (.aload_n 1, 1) := by decide +kernel
theorem dX5_backTo_50 : decode cX5_backTo 50 = .ok (.invokevirtual 43, 3) := by decide +kernel
theorem dX5_backTo_53 : decode cX5_backTo 53 = .ok (.iinc 3 1, 3) := by decide +kernel
theorem dX5_backTo_56 : decode cX5_backTo 56 = .ok (.goto (-48), 3) := by decide +kernel
theorem dX5_backTo_59 : decode cX5_backTo 59 = .ok (.bipush (-5), 2) := by decide +kernel
theorem dX5_backTo_61 : decode cX5_backTo 61 = .ok (.ireturn, 1) := by decide +kernel
theorem dX5_seeLandingsThatLeadTo_0 : decode cX5_seeLandingsThatLeadTo 0 = .ok (.aload_n 0, 1) := by decide +kernel
theorem dX5_seeLandingsThatLeadTo_1 : decode cX5_seeLandingsThatLeadTo 1 = .ok (.iload_n 1, 1) := by decide +kernel
theorem dX5_seeLandingsThatLeadTo_2 : decode cX5_seeLandingsThatLeadTo 2 = .ok (.invokevirtual 26, 3) := by decide +kernel
theorem dX5_seeLandingsThatLeadTo_5 : decode cX5_seeLandingsThatLeadTo 5 = .ok (.iconst 1, 1) := by decide +kernel
theorem dX5_seeLandingsThatLeadTo_6 : decode cX5_seeLandingsThatLeadTo 6 = .ok (.iadd, 1) := by decide +kernel
theorem dX5_seeLandingsThatLeadTo_7 : decode cX5_seeLandingsThatLeadTo 7 = .ok (.istore_n 3, 1) := by decide +kernel
theorem dX5_seeLandingsThatLeadTo_8 : decode cX5_seeLandingsThatLeadTo 8 = .ok (.aload_n 2, 1) := by decide +kernel
theorem dX5_seeLandingsThatLeadTo_9 : decode cX5_seeLandingsThatLeadTo 9 = .ok (.iload_n 1, 1) := by decide +kernel
theorem dX5_seeLandingsThatLeadTo_10 : decode cX5_seeLandingsThatLeadTo 10 = .ok (.invokevirtual 47, 3) := by decide +kernel
theorem dX5_seeLandingsThatLeadTo_13 : decode cX5_seeLandingsThatLeadTo 13 = .ok (.bipush (-5), 2) := by decide +kernel
theorem dX5_seeLandingsThatLeadTo_15 : decode cX5_seeLandingsThatLeadTo 15 = .ok (.if_icmp .ne 9, 3) := by decide +kernel
theorem dX5_seeLandingsThatLeadTo_18 : decode cX5_seeLandingsThatLeadTo 18 = .ok (.aload_n 0, 1) := by decide +kernel
theorem dX5_seeLandingsThatLeadTo_19 : decode cX5_seeLandingsThatLeadTo 19 = .ok (.iload_n 1, 1) := by decide +kernel
theorem dX5_seeLandingsThatLeadTo_20 : decode cX5_seeLandingsThatLeadTo 20 = .ok (.iload_n 3, 1) := by decide +kernel
theorem dX5_seeLandingsThatLeadTo_21 : decode cX5_seeLandingsThatLeadTo 21 = .ok (.invokevirtual 50, 3) := by decide +kernel
theorem dX5_seeLandingsThatLeadTo_24 : decode cX5_seeLandingsThatLeadTo 24 = .ok (.iconst 0, 1) := by decide +kernel
theorem dX5_seeLandingsThatLeadTo_25 : decode cX5_seeLandingsThatLeadTo 25 = .ok (.istore 4, 2) := by decide +kernel
theorem dX5_seeLandingsThatLeadTo_27 : decode cX5_seeLandingsThatLeadTo 27 = .ok (.iload 4, 2) := by decide +kernel
theorem dX5_seeLandingsThatLeadTo_29 : decode cX5_seeLandingsThatLeadTo 29 = .ok (.bipush 10, 2) := by decide +kernel
theorem dX5_seeLandingsThatLeadTo_31 : decode cX5_seeLandingsThatLeadTo 31 = .ok (.if_icmp .ge 41, 3) := by decide +kernel
theorem dX5_seeLandingsThatLeadTo_34 : decode cX5_seeLandingsThatLeadTo 34 = .ok (.aload_n 2, 1) := by decide +kernel
theorem dX5_seeLandingsThatLeadTo_35 : decode cX5_seeLandingsThatLeadTo 35 = .ok (.iload 4, 2) := by decide +kernel
theorem dX5_seeLandingsThatLeadTo_37 : decode cX5_seeLandingsThatLeadTo 37 = .ok (.invokevirtual 53, 3) := by decide +kernel
theorem dX5_seeLandingsThatLeadTo_40 : decode cX5_seeLandingsThatLeadTo 40 = .ok (.astore 5, 2) := by decide +kernel
theorem dX5_seeLandingsThatLeadTo_42 : decode cX5_seeLandingsThatLeadTo 42 = .ok (.aload 5, 2) := by decide +kernel
theorem dX5_seeLandingsThatLeadTo_44 : decode cX5_seeLandingsThatLeadTo 44 = .ok (.ifnull 22, 3) := by decide +kernel
theorem dX5_seeLandingsThatLeadTo_47 : decode cX5_seeLandingsThatLeadTo 47 = .ok (.aload 5, 2) := by decide +kernel
theorem dX5_seeLandingsThatLeadTo_49 : decode cX5_seeLandingsThatLeadTo 49 = .ok (.getfield 57, 3) := by decide +kernel
theorem dX5_seeLandingsThatLeadTo_52 : decode cX5_seeLandingsThatLeadTo 52 = .ok (.iload_n 1, 1) := by decide +kernel
theorem dX5_seeLandingsThatLeadTo_53 : decode cX5_seeLandingsThatLeadTo 53 = .ok (.if_icmp .ne 13, 3) := by decide +kernel
theorem dX5_seeLandingsThatLeadTo_56 : decode cX5_seeLandingsThatLeadTo 56 = .ok (.aload_n 0, 1) := by decide +kernel
theorem dX5_seeLandingsThatLeadTo_57 : decode cX5_seeLandingsThatLeadTo 57 = .ok (.aload 5, 2) := by decide +kernel
theorem dX5_seeLandingsThatLeadTo_59 : decode cX5_seeLandingsThatLeadTo 59 = .ok (.getfield 62, 3) := by decide +kernel
theorem dX5_seeLandingsThatLeadTo_62 : decode cX5_seeLandingsThatLeadTo 62 = .ok (.iload_n 3, 1) := by decide +kernel
theorem dX5_seeLandingsThatLeadTo_63 : decode cX5_seeLandingsThatLeadTo 63 = .ok (.invokevirtual 50, 3) := by decide +kernel
theorem dX5_seeLandingsThatLeadTo_66 : decode cX5_seeLandingsThatLeadTo 66 = .ok (.iinc 4 1, 3) := by decide +kernel
theorem dX5_seeLandingsThatLeadTo_69 : decode cX5_seeLandingsThatLeadTo 69 = .ok (.goto (-42), 3) := by decide +kernel
theorem dX5_seeLandingsThatLeadTo_72 : decode cX5_seeLandingsThatLeadTo 72 = .ok (.return_, 1) := by decide +kernel
theorem dX5_seeSquaresBefore_0 : decode cX5_seeSquaresBefore 0 = .ok (.iconst 1, 1) := by decide +kernel
theorem dX5_seeSquaresBefore_1 : decode cX5_seeSquaresBefore 1 = .ok (.istore_n 3, 1) := by decide +kernel
theorem dX5_seeSquaresBefore_2 : decode cX5_seeSquaresBefore 2 = .ok (.iload_n 3, 1) := by decide +kernel
theorem dX5_seeSquaresBefore_3 : decode cX5_seeSquaresBefore 3 = .ok (.bipush 6, 2) := by decide +kernel
theorem dX5_seeSquaresBefore_5 : decode cX5_seeSquaresBefore 5 = .ok (.if_icmp .gt 28, 3) := by decide +kernel
theorem dX5_seeSquaresBefore_8 : decode cX5_seeSquaresBefore 8 = .ok (.aload_n 0, 1) := by decide +kernel
theorem dX5_seeSquaresBefore_9 : decode cX5_seeSquaresBefore 9 = .ok (.iload_n 1, 1) := by decide +kernel
theorem dX5_seeSquaresBefore_10 : decode cX5_seeSquaresBefore 10 = .ok (.iload_n 3, 1) := by decide +kernel
theorem dX5_seeSquaresBefore_11 : decode cX5_seeSquaresBefore 11 = .ok (.isub, 1) := by decide +kernel
theorem dX5_seeSquaresBefore_12 : decode cX5_seeSquaresBefore 12 = .ok (.iload_n 2, 1) := by decide +kernel
theorem dX5_seeSquaresBefore_13 : decode cX5_seeSquaresBefore 13 = .ok (.invokevirtual 39, 3) := by decide +kernel
theorem dX5_seeSquaresBefore_16 : decode cX5_seeSquaresBefore 16 = .ok (.aload_n 0, 1) := by decide +kernel
theorem dX5_seeSquaresBefore_17 : decode cX5_seeSquaresBefore 17 = .ok (.bipush 120, 2) := by decide +kernel
theorem dX5_seeSquaresBefore_19 : decode cX5_seeSquaresBefore 19 = .ok (.iload_n 1, 1) := by decide +kernel
theorem dX5_seeSquaresBefore_20 : decode cX5_seeSquaresBefore 20 = .ok (.isub, 1) := by decide +kernel
theorem dX5_seeSquaresBefore_21 : decode cX5_seeSquaresBefore 21 = .ok (.iload_n 3, 1) := by decide +kernel
theorem dX5_seeSquaresBefore_22 : decode cX5_seeSquaresBefore 22 = .ok (.isub, 1) := by decide +kernel
theorem dX5_seeSquaresBefore_23 : decode cX5_seeSquaresBefore 23 = .ok (.iload_n 2, 1) := by decide +kernel
theorem dX5_seeSquaresBefore_24 : decode cX5_seeSquaresBefore 24 = .ok (.invokevirtual 39, 3) := by decide +kernel
theorem dX5_seeSquaresBefore_27 : decode cX5_seeSquaresBefore 27 = .ok (.iinc 3 1, 3) := by decide +kernel
theorem dX5_seeSquaresBefore_30 : decode cX5_seeSquaresBefore 30 = .ok (.goto (-28), 3) := by decide +kernel
theorem dX5_seeSquaresBefore_33 : decode cX5_seeSquaresBefore 33 = .ok (.return_, 1) := by decide +kernel
theorem dX5_start_0 : decode cX5_start 0 = .ok (.iconst 0, 1) := by decide +kernel
theorem dX5_start_1 : decode cX5_start 1 = .ok (.istore_n 2, 1) := by decide +kernel
theorem dX5_start_2 : decode cX5_start 2 = .ok (.iload_n 2, 1) := by decide +kernel
theorem dX5_start_3 : decode cX5_start 3 = .ok (.aload_n 0, 1) := by decide +kernel
theorem dX5_start_4 : decode cX5_start 4 = .ok (.getfield 9, 3) := by decide +kernel
theorem dX5_start_7 : decode cX5_start 7 = .ok (.arraylength, 1) := by decide +kernel
theorem dX5_start_8 : decode cX5_start 8 = .ok (.if_icmp .ge 16, 3) := by decide +kernel
theorem dX5_start_11 : decode cX5_start 11 = .ok (.aload_n 0, 1) := by decide +kernel
theorem dX5_start_12 : decode cX5_start 12 = .ok (.getfield 9, 3) := by decide +kernel
theorem dX5_start_15 : decode cX5_start 15 = .ok (.iload_n 2, 1) := by decide +kernel
theorem dX5_start_16 : decode cX5_start 16 = .ok (.iconst (-1), 1) := by decide +kernel
theorem dX5_start_17 : decode cX5_start 17 = .ok (.iastore, 1) := by decide +kernel
theorem dX5_start_18 : decode cX5_start 18 = .ok (.iinc 2 1, 3) := by decide +kernel
theorem dX5_start_21 : decode cX5_start 21 = .ok (.goto (-19), 3) := by decide +kernel
theorem dX5_start_24 : decode cX5_start 24 = .ok (.aload_n 0, 1) := by decide +kernel
theorem dX5_start_25 : decode cX5_start 25 = .ok (.iconst 0, 1) := by decide +kernel
theorem dX5_start_26 : decode cX5_start 26 = .ok (.putfield 22, 3) := by decide +kernel
theorem dX5_start_29 : decode cX5_start 29 = .ok (.aload_n 0, 1) := by decide +kernel
theorem dX5_start_30 : decode cX5_start 30 = .ok (.iload_n 1, 1) := by decide +kernel
theorem dX5_start_31 : decode cX5_start 31 = .ok (.iconst 0, 1) := by decide +kernel
theorem dX5_start_32 : decode cX5_start 32 = .ok (.invokevirtual 39, 3) := by decide +kernel
theorem dX5_start_35 : decode cX5_start 35 = .ok (.return_, 1) := by decide +kernel
theorem dX5_see_0 : decode cX5_see 0 = .ok (.iload_n 1, 1) := by decide +kernel
theorem dX5_see_1 : decode cX5_see 1 = .ok (.ifCond .lt 22, 3) := by decide +kernel
theorem dX5_see_4 : decode cX5_see 4 = .ok (.iload_n 1, 1) := by decide +kernel
theorem dX5_see_5 : decode cX5_see 5 = .ok (.aload_n 0, 1) := by decide +kernel
theorem dX5_see_6 : decode cX5_see 6 = .ok (.getfield 9, 3) := by decide +kernel
theorem dX5_see_9 : decode cX5_see 9 = .ok (.arraylength, 1) := by decide +kernel
theorem dX5_see_10 : decode cX5_see 10 = .ok (.if_icmp .ge 13, 3) := by decide +kernel
theorem dX5_see_13 : decode cX5_see 13 = .ok (.aload_n 0, 1) := by decide +kernel
theorem dX5_see_14 : decode cX5_see 14 = .ok (.getfield 9, 3) := by decide +kernel
theorem dX5_see_17 : decode cX5_see 17 = .ok (.iload_n 1, 1) := by decide +kernel
theorem dX5_see_18 : decode cX5_see 18 = .ok (.iaload, 1) := by decide +kernel
theorem dX5_see_19 : decode cX5_see 19 = .ok (.iconst (-1), 1) := by decide +kernel
theorem dX5_see_20 : decode cX5_see 20 = .ok (.if_icmp .eq 4, 3) := by decide +kernel
theorem dX5_see_23 : decode cX5_see 23 = .ok (.return_, 1) := by decide +kernel
theorem dX5_see_24 : decode cX5_see 24 = .ok (.aload_n 0, 1) := by decide +kernel
theorem dX5_see_25 : decode cX5_see 25 = .ok (.getfield 9, 3) := by decide +kernel
theorem dX5_see_28 : decode cX5_see 28 = .ok (.iload_n 1, 1) := by decide +kernel
theorem dX5_see_29 : decode cX5_see 29 = .ok (.iload_n 2, 1) := by decide +kernel
theorem dX5_see_30 : decode cX5_see 30 = .ok (.iastore, 1) := by decide +kernel
theorem dX5_see_31 : decode cX5_see 31 = .ok (.aload_n 0, 1) := by decide +kernel
theorem dX5_see_32 : decode cX5_see 32 = .ok (.getfield 22, 3) := by decide +kernel
theorem dX5_see_35 : decode cX5_see 35 = .ok (.ifCond .lt 35, 3) := by decide +kernel
theorem dX5_see_38 : decode cX5_see 38 = .ok (.aload_n 0, 1) := by decide +kernel
theorem dX5_see_39 : decode cX5_see 39 = .ok (.getfield 22, 3) := by decide +kernel
theorem dX5_see_42 : decode cX5_see 42 = .ok (.aload_n 0, 1) := by decide +kernel
theorem dX5_see_43 : decode cX5_see 43 = .ok (.getfield 15, 3) := by decide +kernel
theorem dX5_see_46 : decode cX5_see 46 = .ok (.arraylength, 1) := by decide +kernel
theorem dX5_see_47 : decode cX5_see 47 = .ok (.if_icmp .ge 23, 3) := by decide +kernel
theorem dX5_see_50 : decode cX5_see 50 = .ok (.aload_n 0, 1) := by decide +kernel
theorem dX5_see_51 : decode cX5_see 51 = .ok (.getfield 15, 3) := by decide +kernel
theorem dX5_see_54 : decode cX5_see 54 = .ok (.aload_n 0, 1) := by decide +kernel
theorem dX5_see_55 : decode cX5_see 55 = .ok (.getfield 22, 3) := by decide +kernel
theorem dX5_see_58 : decode cX5_see 58 = .ok (.iload_n 1, 1) := by decide +kernel
theorem dX5_see_59 : decode cX5_see 59 = .ok (.iastore, 1) := by decide +kernel
theorem dX5_see_60 : decode cX5_see 60 = .ok (.aload_n 0, 1) := by decide +kernel
theorem dX5_see_61 : decode cX5_see 61 = .ok (.dup, 1) := by decide +kernel
theorem dX5_see_62 : decode cX5_see 62 = .ok (.getfield 22, 3) := by decide +kernel
theorem dX5_see_65 : decode cX5_see 65 = .ok (.iconst 1, 1) := by decide +kernel
theorem dX5_see_66 : decode cX5_see 66 = .ok (.iadd, 1) := by decide +kernel
theorem dX5_see_67 : decode cX5_see 67 = .ok (.putfield 22, 3) := by decide +kernel
theorem dX5_see_70 : decode cX5_see 70 = .ok (.return_, 1) := by decide +kernel
theorem dX5_throwsAt_0 : decode cX5_throwsAt 0 = .ok (.iload_n 1, 1) := by decide +kernel
theorem dX5_throwsAt_1 : decode cX5_throwsAt 1 = .ok (.ifCond .lt 21, 3) := by decide +kernel
theorem dX5_throwsAt_4 : decode cX5_throwsAt 4 = .ok (.iload_n 1, 1) := by decide +kernel
theorem dX5_throwsAt_5 : decode cX5_throwsAt 5 = .ok (.aload_n 0, 1) := by decide +kernel
theorem dX5_throwsAt_6 : decode cX5_throwsAt 6 = .ok (.getfield 9, 3) := by decide +kernel
theorem dX5_throwsAt_9 : decode cX5_throwsAt 9 = .ok (.arraylength, 1) := by decide +kernel
theorem dX5_throwsAt_10 : decode cX5_throwsAt 10 = .ok (.if_icmp .ge 12, 3) := by decide +kernel
theorem dX5_throwsAt_13 : decode cX5_throwsAt 13 = .ok (.aload_n 0, 1) := by decide +kernel
theorem dX5_throwsAt_14 : decode cX5_throwsAt 14 = .ok (.getfield 9, 3) := by decide +kernel
theorem dX5_throwsAt_17 : decode cX5_throwsAt 17 = .ok (.iload_n 1, 1) := by decide +kernel
theorem dX5_throwsAt_18 : decode cX5_throwsAt 18 = .ok (.iaload, 1) := by decide +kernel
theorem dX5_throwsAt_19 : decode cX5_throwsAt 19 = .ok (.goto 5, 3) := by decide +kernel
theorem dX5_throwsAt_22 : decode cX5_throwsAt 22 = .ok (.bipush (-5), 2) := by decide +kernel
theorem dX5_throwsAt_24 : decode cX5_throwsAt 24 = .ok (.ireturn, 1) := by decide +kernel
theorem dX6_init_0 : decode cX6_init 0 = .ok (.aload_n 0, 1) := by decide +kernel
theorem dX6_init_1 : decode cX6_init 1 = .ok (.invokespecial 1, 3) := by decide +kernel
theorem dX6_init_4 : decode cX6_init 4 = .ok (.return_, 1) := by decide +kernel
theorem dX6_isThere_0 : decode cX6_isThere 0 = .ok (.aload_n 0, 1) := by decide +kernel
theorem dX6_isThere_1 : decode cX6_isThere 1 = .ok (.getfield 7, 3) := by decide +kernel
theorem dX6_isThere_4 : decode cX6_isThere 4 = .ok (.ifCond .le 7, 3) := by decide +kernel
theorem dX6_isThere_7 : decode cX6_isThere 7 = .ok (.iconst 1, 1) := by decide +kernel
theorem dX6_isThere_8 : decode cX6_isThere 8 = .ok (.goto 4, 3) := by decide +kernel
theorem dX6_isThere_11 : decode cX6_isThere 11 = .ok (.iconst 0, 1) := by decide +kernel
theorem dX6_isThere_12 : decode cX6_isThere 12 = .ok (.ireturn, 1) := by decide +kernel
theorem dX6_appear_0 : decode cX6_appear 0 = .ok (.aload_n 0, 1) := by decide +kernel
theorem dX6_appear_1 : decode cX6_appear 1 = .ok (.iload_n 1, 1) := by decide +kernel
theorem dX6_appear_2 : decode cX6_appear 2 = .ok (.putfield 7, 3) := by decide +kernel
theorem dX6_appear_5 : decode cX6_appear 5 = .ok (.aload_n 0, 1) := by decide +kernel
theorem dX6_appear_6 : decode cX6_appear 6 = .ok (.iload_n 2, 1) := by decide +kernel
theorem dX6_appear_7 : decode cX6_appear 7 = .ok (.putfield 13, 3) := by decide +kernel
theorem dX6_appear_10 : decode cX6_appear 10 = .ok (.aload_n 0, 1) := by decide +kernel
theorem dX6_appear_11 : decode cX6_appear 11 = .ok (.iconst 0, 1) := by decide +kernel
theorem dX6_appear_12 : decode cX6_appear 12 = .ok (.putfield 16, 3) := by decide +kernel
theorem dX6_appear_15 : decode cX6_appear 15 = .ok (.aload_n 0, 1) := by decide +kernel
theorem dX6_appear_16 : decode cX6_appear 16 = .ok (.iconst 0, 1) := by decide +kernel
theorem dX6_appear_17 : decode cX6_appear 17 = .ok (.putfield 19, 3) := by decide +kernel
theorem dX6_appear_20 : decode cX6_appear 20 = .ok (.return_, 1) := by decide +kernel
theorem dX6_vanish_0 : decode cX6_vanish 0 = .ok (.aload_n 0, 1) := by decide +kernel
theorem dX6_vanish_1 : decode cX6_vanish 1 = .ok (.iconst 0, 1) := by decide +kernel
theorem dX6_vanish_2 : decode cX6_vanish 2 = .ok (.iconst 0, 1) := by decide +kernel
theorem dX6_vanish_3 : decode cX6_vanish 3 = .ok (.invokevirtual 22, 3) := by decide +kernel
theorem dX6_vanish_6 : decode cX6_vanish 6 = .ok (.return_, 1) := by decide +kernel
theorem dX6_copyFrom_0 : decode cX6_copyFrom 0 = .ok (.aload_n 0, 1) := by decide +kernel
theorem dX6_copyFrom_1 : decode cX6_copyFrom 1 = .ok (.aload_n 1, 1) := by decide +kernel
theorem dX6_copyFrom_2 : decode cX6_copyFrom 2 = .ok (.getfield 7, 3) := by decide +kernel
theorem dX6_copyFrom_5 : decode cX6_copyFrom 5 = .ok (.putfield 7, 3) := by decide +kernel
theorem dX6_copyFrom_8 : decode cX6_copyFrom 8 = .ok (.aload_n 0, 1) := by decide +kernel
theorem dX6_copyFrom_9 : decode cX6_copyFrom 9 = .ok (.aload_n 1, 1) := by decide +kernel
theorem dX6_copyFrom_10 : decode cX6_copyFrom 10 = .ok (.getfield 13, 3) := by decide +kernel
theorem dX6_copyFrom_13 : decode cX6_copyFrom 13 = .ok (.putfield 13, 3) := by decide +kernel
theorem dX6_copyFrom_16 : decode cX6_copyFrom 16 = .ok (.aload_n 0, 1) := by decide +kernel
theorem dX6_copyFrom_17 : decode cX6_copyFrom 17 = .ok (.aload_n 1, 1) := by decide +kernel
theorem dX6_copyFrom_18 : decode cX6_copyFrom 18 = .ok (.getfield 16, 3) := by decide +kernel
theorem dX6_copyFrom_21 : decode cX6_copyFrom 21 = .ok (.putfield 16, 3) := by decide +kernel
theorem dX6_copyFrom_24 : decode cX6_copyFrom 24 = .ok (.aload_n 0, 1) := by decide +kernel
theorem dX6_copyFrom_25 : decode cX6_copyFrom 25 = .ok (.aload_n 1, 1) := by decide +kernel
theorem dX6_copyFrom_26 : decode cX6_copyFrom 26 = .ok (.getfield 19, 3) := by decide +kernel
theorem dX6_copyFrom_29 : decode cX6_copyFrom 29 = .ok (.putfield 19, 3) := by decide +kernel
theorem dX6_copyFrom_32 : decode cX6_copyFrom 32 = .ok (.return_, 1) := by decide +kernel
theorem dX7_init_0 : decode cX7_init 0 = .ok (.aload_n 0, 1) := by decide +kernel
theorem dX7_init_1 : decode cX7_init 1 = .ok (.invokespecial 3, 3) := by decide +kernel
theorem dX7_init_4 : decode cX7_init 4 = .ok (.aload_n 0, 1) := by decide +kernel
theorem dX7_init_5 : decode cX7_init 5 = .ok (.new 9, 3) := by decide +kernel
theorem dX7_init_8 : decode cX7_init 8 = .ok (.dup, 1) := by decide +kernel
theorem dX7_init_9 : decode cX7_init 9 = .ok (.invokespecial 11, 3) := by decide +kernel
theorem dX7_init_12 : decode cX7_init 12 = .ok (.putfield 12, 3) := by decide +kernel
theorem dX7_init_15 : decode cX7_init 15 = .ok (.aload_n 0, 1) := by decide +kernel
theorem dX7_init_16 : decode cX7_init 16 = .ok (.new 9, 3) := by decide +kernel
theorem dX7_init_19 : decode cX7_init 19 = .ok (.dup, 1) := by decide +kernel
theorem dX7_init_20 : decode cX7_init 20 = .ok (.invokespecial 11, 3) := by decide +kernel
theorem dX7_init_23 : decode cX7_init 23 = .ok (.putfield 16, 3) := by decide +kernel
theorem dX7_init_26 : decode cX7_init 26 = .ok (.aload_n 0, 1) := by decide +kernel
theorem dX7_init_27 : decode cX7_init 27 = .ok (.new 9, 3) := by decide +kernel
theorem dX7_init_30 : decode cX7_init 30 = .ok (.dup, 1) := by decide +kernel
theorem dX7_init_31 : decode cX7_init 31 = .ok (.invokespecial 11, 3) := by decide +kernel
theorem dX7_init_34 : decode cX7_init 34 = .ok (.putfield 19, 3) := by decide +kernel
theorem dX7_init_37 : decode cX7_init 37 = .ok (.aload_n 0, 1) := by decide +kernel
theorem dX7_init_38 : decode cX7_init 38 = .ok (.new 22, 3) := by decide +kernel
theorem dX7_init_41 : decode cX7_init 41 = .ok (.dup, 1) := by decide +kernel
theorem dX7_init_42 : decode cX7_init 42 = .ok (.invokespecial 24, 3) := by decide +kernel
theorem dX7_init_45 : decode cX7_init 45 = .ok (.putfield 25, 3) := by decide +kernel
theorem dX7_init_48 : decode cX7_init 48 = .ok (.aload_n 0, 1) := by decide +kernel
theorem dX7_init_49 : decode cX7_init 49 = .ok (.new 29, 3) := by decide +kernel
theorem dX7_init_52 : decode cX7_init 52 = .ok (.dup, 1) := by decide +kernel
theorem dX7_init_53 : decode cX7_init 53 = .ok (.invokespecial 31, 3) := by decide +kernel
theorem dX7_init_56 : decode cX7_init 56 = .ok (.putfield 32, 3) := by decide +kernel
theorem dX7_init_59 : decode cX7_init 59 = .ok (.aload_n 0, 1) := by decide +kernel
theorem dX7_init_60 : decode cX7_init 60 = .ok (.new 36, 3) := by decide +kernel
theorem dX7_init_63 : decode cX7_init 63 = .ok (.dup, 1) := by decide +kernel
theorem dX7_init_64 : decode cX7_init 64 = .ok (.invokespecial 38, 3) := by decide +kernel
theorem dX7_init_67 : decode cX7_init 67 = .ok (.putfield 39, 3) := by decide +kernel
theorem dX7_init_70 : decode cX7_init 70 = .ok (.aload_n 0, 1) := by decide +kernel
theorem dX7_init_71 : decode cX7_init 71 = .ok (.iconst 0, 1) := by decide +kernel
theorem dX7_init_72 : decode cX7_init 72 = .ok (.putfield 43, 3) := by decide +kernel
theorem dX7_init_75 : decode cX7_init 75 = .ok (.return_, 1) := by decide +kernel
theorem dX7_snake_0 : decode cX7_snake 0 = .ok (.iload_n 1, 1) := by decide +kernel
theorem dX7_snake_1 : decode cX7_snake 1 = .ok (.iload_n 2, 1) := by decide +kernel
theorem dX7_snake_2 : decode cX7_snake 2 = .ok (.invokestatic 47, 3) := by decide +kernel
theorem dX7_snake_5 : decode cX7_snake 5 = .ok (.ifCond .ne 6, 3) := by decide +kernel
theorem dX7_snake_8 : decode cX7_snake 8 = .ok (.bipush (-2), 2) := by decide +kernel
theorem dX7_snake_10 : decode cX7_snake 10 = .ok (.ireturn, 1) := by decide +kernel
theorem dX7_snake_11 : decode cX7_snake 11 = .ok (.aload_n 0, 1) := by decide +kernel
theorem dX7_snake_12 : decode cX7_snake 12 = .ok (.getfield 12, 3) := by decide +kernel
theorem dX7_snake_15 : decode cX7_snake 15 = .ok (.iload_n 1, 1) := by decide +kernel
theorem dX7_snake_16 : decode cX7_snake 16 = .ok (.invokevirtual 51, 3) := by decide +kernel
theorem dX7_snake_19 : decode cX7_snake 19 = .ok (.bipush (-5), 2) := by decide +kernel
theorem dX7_snake_21 : decode cX7_snake 21 = .ok (.if_icmp .eq 6, 3) := by decide +kernel
theorem dX7_snake_24 : decode cX7_snake 24 = .ok (.bipush (-4), 2) := by decide +kernel
theorem dX7_snake_26 : decode cX7_snake 26 = .ok (.ireturn, 1) := by decide +kernel
theorem dX7_snake_27 : decode cX7_snake 27 = .ok (.aload_n 0, 1) := by decide +kernel
theorem dX7_snake_28 : decode cX7_snake 28 = .ok (.getfield 12, 3) := by decide +kernel
theorem dX7_snake_31 : decode cX7_snake 31 = .ok (.invokevirtual 55, 3) := by decide +kernel
theorem dX7_snake_34 : decode cX7_snake 34 = .ok (.istore_n 3, 1) := by decide +kernel
theorem dX7_snake_35 : decode cX7_snake 35 = .ok (.aload_n 0, 1) := by decide +kernel
theorem dX7_snake_36 : decode cX7_snake 36 = .ok (.getfield 12, 3) := by decide +kernel
theorem dX7_snake_39 : decode cX7_snake 39 = .ok (.iload_n 3, 1) := by decide +kernel
theorem dX7_snake_40 : decode cX7_snake 40 = .ok (.invokevirtual 59, 3) := by decide +kernel
theorem dX7_snake_43 : decode cX7_snake 43 = .ok (.astore 4, 2) := by decide +kernel
theorem dX7_snake_45 : decode cX7_snake 45 = .ok (.aload 4, 2) := by decide +kernel
theorem dX7_snake_47 : decode cX7_snake 47 = .ok (.ifnonnull 6, 3) := by decide +kernel
theorem dX7_snake_50 : decode cX7_snake 50 = .ok (.bipush (-3), 2) := by decide +kernel
theorem dX7_snake_52 : decode cX7_snake 52 = .ok (.ireturn, 1) := by decide +kernel
theorem dX7_snake_53 : decode cX7_snake 53 = .ok (.aload_n 0, 1) := by decide +kernel
theorem dX7_snake_54 : decode cX7_snake 54 = .ok (.getfield 25, 3) := by decide +kernel
theorem dX7_snake_57 : decode cX7_snake 57 = .ok (.aload_n 0, 1) := by decide +kernel
theorem dX7_snake_58 : decode cX7_snake 58 = .ok (.getfield 12, 3) := by decide +kernel
theorem dX7_snake_61 : decode cX7_snake 61 = .ok (.invokevirtual 63, 3) := by decide +kernel
theorem dX7_snake_64 : decode cX7_snake 64 = .ok (.aload 4, 2) := by decide +kernel
theorem dX7_snake_66 : decode cX7_snake 66 = .ok (.iload_n 1, 1) := by decide +kernel
theorem dX7_snake_67 : decode cX7_snake 67 = .ok (.iload_n 2, 1) := by decide +kernel
theorem dX7_snake_68 : decode cX7_snake 68 = .ok (.invokevirtual 67, 3) := by decide +kernel
theorem dX7_snake_71 : decode cX7_snake 71 = .ok (.iload_n 3, 1) := by decide +kernel
theorem dX7_snake_72 : decode cX7_snake 72 = .ok (.ireturn, 1) := by decide +kernel
theorem dX7_charm_0 : decode cX7_charm 0 = .ok (.aload_n 0, 1) := by decide +kernel
theorem dX7_charm_1 : decode cX7_charm 1 = .ok (.getfield 12, 3) := by decide +kernel
theorem dX7_charm_4 : decode cX7_charm 4 = .ok (.iload_n 1, 1) := by decide +kernel
theorem dX7_charm_5 : decode cX7_charm 5 = .ok (.invokevirtual 73, 3) := by decide +kernel
theorem dX7_charm_8 : decode cX7_charm 8 = .ok (.astore_n 3, 1) := by decide +kernel
theorem dX7_charm_9 : decode cX7_charm 9 = .ok (.aload_n 3, 1) := by decide +kernel
theorem dX7_charm_10 : decode cX7_charm 10 = .ok (.ifnonnull 5, 3) := by decide +kernel
theorem dX7_charm_13 : decode cX7_charm 13 = .ok (.iconst (-1), 1) := by decide +kernel
theorem dX7_charm_14 : decode cX7_charm 14 = .ok (.ireturn, 1) := by decide +kernel
theorem dX7_charm_15 : decode cX7_charm 15 = .ok (.iload_n 2, 1) := by decide +kernel
theorem dX7_charm_16 : decode cX7_charm 16 = .ok (.iconst 1, 1) := by decide +kernel
theorem dX7_charm_17 : decode cX7_charm 17 = .ok (.if_icmp .lt 9, 3) := by decide +kernel
theorem dX7_charm_20 : decode cX7_charm 20 = .ok (.iload_n 2, 1) := by decide +kernel
theorem dX7_charm_21 : decode cX7_charm 21 = .ok (.bipush 10, 2) := by decide +kernel
theorem dX7_charm_23 : decode cX7_charm 23 = .ok (.if_icmp .le 6, 3) := by decide +kernel
theorem dX7_charm_26 : decode cX7_charm 26 = .ok (.bipush (-2), 2) := by decide +kernel
theorem dX7_charm_28 : decode cX7_charm 28 = .ok (.ireturn, 1) := by decide +kernel
theorem dX7_charm_29 : decode cX7_charm 29 = .ok (.aload_n 0, 1) := by decide +kernel
theorem dX7_charm_30 : decode cX7_charm 30 = .ok (.getfield 25, 3) := by decide +kernel
theorem dX7_charm_33 : decode cX7_charm 33 = .ok (.aload_n 0, 1) := by decide +kernel
theorem dX7_charm_34 : decode cX7_charm 34 = .ok (.getfield 12, 3) := by decide +kernel
theorem dX7_charm_37 : decode cX7_charm 37 = .ok (.invokevirtual 63, 3) := by decide +kernel
theorem dX7_charm_40 : decode cX7_charm 40 = .ok (.aload_n 3, 1) := by decide +kernel
theorem dX7_charm_41 : decode cX7_charm 41 = .ok (.getfield 76, 3) := by decide +kernel
theorem dX7_charm_44 : decode cX7_charm 44 = .ok (.istore 4, 2) := by decide +kernel
theorem dX7_charm_46 : decode cX7_charm 46 = .ok (.iload_n 2, 1) := by decide +kernel
theorem dX7_charm_47 : decode cX7_charm 47 = .ok (.bipush 10, 2) := by decide +kernel
theorem dX7_charm_49 : decode cX7_charm 49 = .ok (.if_icmp .ne 10, 3) := by decide +kernel
theorem dX7_charm_52 : decode cX7_charm 52 = .ok (.aload_n 3, 1) := by decide +kernel
theorem dX7_charm_53 : decode cX7_charm 53 = .ok (.invokevirtual 80, 3) := by decide +kernel
theorem dX7_charm_56 : decode cX7_charm 56 = .ok (.goto 13, 3) := by decide +kernel
theorem dX7_charm_59 : decode cX7_charm 59 = .ok (.aload_n 3, 1) := by decide +kernel
theorem dX7_charm_60 : decode cX7_charm 60 = .ok (.dup, 1) := by decide +kernel
theorem dX7_charm_61 : decode cX7_charm 61 = .ok (.getfield 76, 3) := by decide +kernel
theorem dX7_charm_64 : decode cX7_charm 64 = .ok (.iload_n 2, 1) := by decide +kernel
theorem dX7_charm_65 : decode cX7_charm 65 = .ok (.iadd, 1) := by decide +kernel
theorem dX7_charm_66 : decode cX7_charm 66 = .ok (.putfield 76, 3) := by decide +kernel
theorem dX7_charm_69 : decode cX7_charm 69 = .ok (.iload 4, 2) := by decide +kernel
theorem dX7_charm_71 : decode cX7_charm 71 = .ok (.ireturn, 1) := by decide +kernel
theorem dX7_turn_0 : decode cX7_turn 0 = .ok (.iload_n 1, 1) := by decide +kernel
theorem dX7_turn_1 : decode cX7_turn 1 = .ok (.iconst 1, 1) := by decide +kernel
theorem dX7_turn_2 : decode cX7_turn 2 = .ok (.if_icmp .lt 9, 3) := by decide +kernel
theorem dX7_turn_5 : decode cX7_turn 5 = .ok (.iload_n 1, 1) := by decide +kernel
theorem dX7_turn_6 : decode cX7_turn 6 = .ok (.bipush 6, 2) := by decide +kernel
theorem dX7_turn_8 : decode cX7_turn 8 = .ok (.if_icmp .le 6, 3) := by decide +kernel
theorem dX7_turn_11 : decode cX7_turn 11 = .ok (.bipush (-2), 2) := by decide +kernel
theorem dX7_turn_13 : decode cX7_turn 13 = .ok (.ireturn, 1) := by decide +kernel
theorem dX7_turn_14 : decode cX7_turn 14 = .ok (.aload_n 0, 1) := by decide +kernel
theorem dX7_turn_15 : decode cX7_turn 15 = .ok (.getfield 12, 3) := by decide +kernel
theorem dX7_turn_18 : decode cX7_turn 18 = .ok (.invokevirtual 83, 3) := by decide +kernel
theorem dX7_turn_21 : decode cX7_turn 21 = .ok (.ifCond .eq 6, 3) := by decide +kernel
theorem dX7_turn_24 : decode cX7_turn 24 = .ok (.bipush (-4), 2) := by decide +kernel
theorem dX7_turn_26 : decode cX7_turn 26 = .ok (.ireturn, 1) := by decide +kernel
theorem dX7_turn_27 : decode cX7_turn 27 = .ok (.aload_n 0, 1) := by decide +kernel
theorem dX7_turn_28 : decode cX7_turn 28 = .ok (.getfield 25, 3) := by decide +kernel
theorem dX7_turn_31 : decode cX7_turn 31 = .ok (.aload_n 0, 1) := by decide +kernel
theorem dX7_turn_32 : decode cX7_turn 32 = .ok (.getfield 12, 3) := by decide +kernel
theorem dX7_turn_35 : decode cX7_turn 35 = .ok (.invokevirtual 63, 3) := by decide +kernel
theorem dX7_turn_38 : decode cX7_turn 38 = .ok (.aload_n 0, 1) := by decide +kernel
theorem dX7_turn_39 : decode cX7_turn 39 = .ok (.getfield 12, 3) := by decide +kernel
theorem dX7_turn_42 : decode cX7_turn 42 = .ok (.iload_n 1, 1) := by decide +kernel
theorem dX7_turn_43 : decode cX7_turn 43 = .ok (.invokevirtual 87, 3) := by decide +kernel
theorem dX7_turn_46 : decode cX7_turn 46 = .ok (.ireturn, 1) := by decide +kernel
theorem dX7_play_0 : decode cX7_play 0 = .ok (.iload_n 1, 1) := by decide +kernel
theorem dX7_play_1 : decode cX7_play 1 = .ok (.invokestatic 90, 3) := by decide +kernel
theorem dX7_play_4 : decode cX7_play 4 = .ok (.ifCond .eq 14, 3) := by decide +kernel
theorem dX7_play_7 : decode cX7_play 7 = .ok (.iload_n 2, 1) := by decide +kernel
theorem dX7_play_8 : decode cX7_play 8 = .ok (.iconst 1, 1) := by decide +kernel
theorem dX7_play_9 : decode cX7_play 9 = .ok (.if_icmp .lt 9, 3) := by decide +kernel
theorem dX7_play_12 : decode cX7_play 12 = .ok (.iload_n 2, 1) := by decide +kernel
theorem dX7_play_13 : decode cX7_play 13 = .ok (.bipush 50, 2) := by decide +kernel
theorem dX7_play_15 : decode cX7_play 15 = .ok (.if_icmp .le 6, 3) := by decide +kernel
theorem dX7_play_18 : decode cX7_play 18 = .ok (.bipush (-2), 2) := by decide +kernel
theorem dX7_play_20 : decode cX7_play 20 = .ok (.ireturn, 1) := by decide +kernel
theorem dX7_play_21 : decode cX7_play 21 = .ok (.aload_n 0, 1) := by decide +kernel
theorem dX7_play_22 : decode cX7_play 22 = .ok (.getfield 12, 3) := by decide +kernel
theorem dX7_play_25 : decode cX7_play 25 = .ok (.invokevirtual 83, 3) := by decide +kernel
theorem dX7_play_28 : decode cX7_play 28 = .ok (.ifCond .eq 6, 3) := by decide +kernel
theorem dX7_play_31 : decode cX7_play 31 = .ok (.bipush (-4), 2) := by decide +kernel
theorem dX7_play_33 : decode cX7_play 33 = .ok (.ireturn, 1) := by decide +kernel
theorem dX7_play_34 : decode cX7_play 34 = .ok (.aload_n 0, 1) := by decide +kernel
theorem dX7_play_35 : decode cX7_play 35 = .ok (.getfield 25, 3) := by decide +kernel
theorem dX7_play_38 : decode cX7_play 38 = .ok (.aload_n 0, 1) := by decide +kernel
theorem dX7_play_39 : decode cX7_play 39 = .ok (.getfield 12, 3) := by decide +kernel
theorem dX7_play_42 : decode cX7_play 42 = .ok (.invokevirtual 63, 3) := by decide +kernel
theorem dX7_play_45 : decode cX7_play 45 = .ok (.iload_n 1, 1) := by decide +kernel
theorem dX7_play_46 : decode cX7_play 46 = .ok (.istore_n 3, 1) := by decide +kernel
theorem dX7_play_47 : decode cX7_play 47 = .ok (.iconst 0, 1) := by decide +kernel
theorem dX7_play_48 : decode cX7_play 48 = .ok (.istore 4, 2) := by decide +kernel
theorem dX7_play_50 : decode cX7_play 50 = .ok (.iload 4, 2) := by decide +kernel
theorem dX7_play_52 : decode cX7_play 52 = .ok (.iload_n 2, 1) := by decide +kernel
theorem dX7_play_53 : decode cX7_play 53 = .ok (.if_icmp .ge 36, 3) := by decide +kernel
theorem dX7_play_56 : decode cX7_play 56 = .ok (.aload_n 0, 1) := by decide +kernel
theorem dX7_play_57 : decode cX7_play 57 = .ok (.getfield 12, 3) := by decide +kernel
theorem dX7_play_60 : decode cX7_play 60 = .ok (.invokevirtual 83, 3) := by decide +kernel
theorem dX7_play_63 : decode cX7_play 63 = .ok (.ifCond .ne 26, 3) := by decide +kernel
theorem dX7_play_66 : decode cX7_play 66 = .ok (.iload_n 3, 1) := by decide +kernel
theorem dX7_play_67 : decode cX7_play 67 = .ok (.invokestatic 94, 3) := by decide +kernel
theorem dX7_play_70 : decode cX7_play 70 = .ok (.istore_n 3, 1) := by decide +kernel
theorem dX7_play_71 : decode cX7_play 71 = .ok (.aload_n 0, 1) := by decide +kernel
theorem dX7_play_72 : decode cX7_play 72 = .ok (.getfield 12, 3) := by decide +kernel
theorem dX7_play_75 : decode cX7_play 75 = .ok (.iload_n 3, 1) := by decide +kernel
theorem dX7_play_76 : decode cX7_play 76 = .ok (.invokestatic 97, 3) := by decide +kernel
theorem dX7_play_79 : decode cX7_play 79 = .ok (.invokevirtual 87, 3) := by decide +kernel
theorem dX7_play_82 : decode cX7_play 82 = .ok (.pop, 1) := by decide +kernel
theorem dX7_play_83 : decode cX7_play 83 = .ok (.iinc 4 1, 3) := by decide +kernel
theorem dX7_play_86 : decode cX7_play 86 = .ok (.goto (-36), 3) := by decide +kernel
theorem dX7_play_89 : decode cX7_play 89 = .ok (.iload 4, 2) := by decide +kernel
theorem dX7_play_91 : decode cX7_play 91 = .ok (.ireturn, 1) := by decide +kernel
theorem dX7_sell_0 : decode cX7_sell 0 = .ok (.aload_n 0, 1) := by decide +kernel
theorem dX7_sell_1 : decode cX7_sell 1 = .ok (.getfield 12, 3) := by decide +kernel
theorem dX7_sell_4 : decode cX7_sell 4 = .ok (.iload_n 1, 1) := by decide +kernel
theorem dX7_sell_5 : decode cX7_sell 5 = .ok (.iload_n 2, 1) := by decide +kernel
theorem dX7_sell_6 : decode cX7_sell 6 = .ok (.iload_n 3, 1) := by decide +kernel
theorem dX7_sell_7 : decode cX7_sell 7 = .ok (.iload 4, 2) := by decide +kernel
theorem dX7_sell_9 : decode cX7_sell 9 = .ok (.invokevirtual 100, 3) := by decide +kernel
theorem dX7_sell_12 : decode cX7_sell 12 = .ok (.ifCond .ne 14, 3) := by decide +kernel
theorem dX7_sell_15 : decode cX7_sell 15 = .ok (.aload_n 0, 1) := by decide +kernel
theorem dX7_sell_16 : decode cX7_sell 16 = .ok (.getfield 25, 3) := by decide +kernel
theorem dX7_sell_19 : decode cX7_sell 19 = .ok (.aload_n 0, 1) := by decide +kernel
theorem dX7_sell_20 : decode cX7_sell 20 = .ok (.getfield 12, 3) := by decide +kernel
theorem dX7_sell_23 : decode cX7_sell 23 = .ok (.invokevirtual 63, 3) := by decide +kernel
theorem dX7_sell_26 : decode cX7_sell 26 = .ok (.aload_n 0, 1) := by decide +kernel
theorem dX7_sell_27 : decode cX7_sell 27 = .ok (.getfield 12, 3) := by decide +kernel
theorem dX7_sell_30 : decode cX7_sell 30 = .ok (.iload_n 1, 1) := by decide +kernel
theorem dX7_sell_31 : decode cX7_sell 31 = .ok (.iload_n 2, 1) := by decide +kernel
theorem dX7_sell_32 : decode cX7_sell 32 = .ok (.iload_n 3, 1) := by decide +kernel
theorem dX7_sell_33 : decode cX7_sell 33 = .ok (.iload 4, 2) := by decide +kernel
theorem dX7_sell_35 : decode cX7_sell 35 = .ok (.invokevirtual 104, 3) := by decide +kernel
theorem dX7_sell_38 : decode cX7_sell 38 = .ok (.ireturn, 1) := by decide +kernel
theorem dX7_set_0 : decode cX7_set 0 = .ok (.iload_n 1, 1) := by decide +kernel
theorem dX7_set_1 : decode cX7_set 1 = .ok (.ifCond .lt 8, 3) := by decide +kernel
theorem dX7_set_4 : decode cX7_set 4 = .ok (.iload_n 1, 1) := by decide +kernel
theorem dX7_set_5 : decode cX7_set 5 = .ok (.iconst 2, 1) := by decide +kernel
theorem dX7_set_6 : decode cX7_set 6 = .ok (.if_icmp .le 5, 3) := by decide +kernel
theorem dX7_set_9 : decode cX7_set 9 = .ok (.iconst (-1), 1) := by decide +kernel
theorem dX7_set_10 : decode cX7_set 10 = .ok (.ireturn, 1) := by decide +kernel
theorem dX7_set_11 : decode cX7_set 11 = .ok (.iload_n 2, 1) := by decide +kernel
theorem dX7_set_12 : decode cX7_set 12 = .ok (.iload_n 1, 1) := by decide +kernel
theorem dX7_set_13 : decode cX7_set 13 = .ok (.invokestatic 107, 3) := by decide +kernel
theorem dX7_set_16 : decode cX7_set 16 = .ok (.if_icmp .lt 11, 3) := by decide +kernel
theorem dX7_set_19 : decode cX7_set 19 = .ok (.iload_n 2, 1) := by decide +kernel
theorem dX7_set_20 : decode cX7_set 20 = .ok (.iload_n 1, 1) := by decide +kernel
theorem dX7_set_21 : decode cX7_set 21 = .ok (.invokestatic 110, 3) := by decide +kernel
theorem dX7_set_24 : decode cX7_set 24 = .ok (.if_icmp .le 6, 3) := by decide +kernel
theorem dX7_set_27 : decode cX7_set 27 = .ok (.bipush (-2), 2) := by decide +kernel
theorem dX7_set_29 : decode cX7_set 29 = .ok (.ireturn, 1) := by decide +kernel
theorem dX7_set_30 : decode cX7_set 30 = .ok (.aload_n 0, 1) := by decide +kernel
theorem dX7_set_31 : decode cX7_set 31 = .ok (.getfield 25, 3) := by decide +kernel
theorem dX7_set_34 : decode cX7_set 34 = .ok (.aload_n 0, 1) := by decide +kernel
theorem dX7_set_35 : decode cX7_set 35 = .ok (.getfield 12, 3) := by decide +kernel
theorem dX7_set_38 : decode cX7_set 38 = .ok (.invokevirtual 63, 3) := by decide +kernel
theorem dX7_set_41 : decode cX7_set 41 = .ok (.aload_n 0, 1) := by decide +kernel
theorem dX7_set_42 : decode cX7_set 42 = .ok (.getfield 12, 3) := by decide +kernel
theorem dX7_set_45 : decode cX7_set 45 = .ok (.iload_n 1, 1) := by decide +kernel
theorem dX7_set_46 : decode cX7_set 46 = .ok (.invokevirtual 113, 3) := by decide +kernel
theorem dX7_set_49 : decode cX7_set 49 = .ok (.istore_n 3, 1) := by decide +kernel
theorem dX7_set_50 : decode cX7_set 50 = .ok (.aload_n 0, 1) := by decide +kernel
theorem dX7_set_51 : decode cX7_set 51 = .ok (.getfield 12, 3) := by decide +kernel
theorem dX7_set_54 : decode cX7_set 54 = .ok (.iload_n 1, 1) := by decide +kernel
theorem dX7_set_55 : decode cX7_set 55 = .ok (.iload_n 2, 1) := by decide +kernel
theorem dX7_set_56 : decode cX7_set 56 = .ok (.invokevirtual 116, 3) := by decide +kernel
theorem dX7_set_59 : decode cX7_set 59 = .ok (.iload_n 3, 1) := by decide +kernel
theorem dX7_set_60 : decode cX7_set 60 = .ok (.ireturn, 1) := by decide +kernel
theorem dX7_append_0 : decode cX7_append 0 = .ok (.iload_n 1, 1) := by decide +kernel
theorem dX7_append_1 : decode cX7_append 1 = .ok (.bipush 32, 2) := by decide +kernel
theorem dX7_append_3 : decode cX7_append 3 = .ok (.if_icmp .lt 9, 3) := by decide +kernel
theorem dX7_append_6 : decode cX7_append 6 = .ok (.iload_n 1, 1) := by decide +kernel
theorem dX7_append_7 : decode cX7_append 7 = .ok (.bipush 126, 2) := by decide +kernel
theorem dX7_append_9 : decode cX7_append 9 = .ok (.if_icmp .le 6, 3) := by decide +kernel
theorem dX7_append_12 : decode cX7_append 12 = .ok (.bipush (-2), 2) := by decide +kernel
theorem dX7_append_14 : decode cX7_append 14 = .ok (.ireturn, 1) := by decide +kernel
theorem dX7_append_15 : decode cX7_append 15 = .ok (.aload_n 0, 1) := by decide +kernel
theorem dX7_append_16 : decode cX7_append 16 = .ok (.getfield 32, 3) := by decide +kernel
theorem dX7_append_19 : decode cX7_append 19 = .ok (.iload_n 1, 1) := by decide +kernel
theorem dX7_append_20 : decode cX7_append 20 = .ok (.invokevirtual 119, 3) := by decide +kernel
theorem dX7_append_23 : decode cX7_append 23 = .ok (.ifCond .eq 13, 3) := by decide +kernel
theorem dX7_append_26 : decode cX7_append 26 = .ok (.aload_n 0, 1) := by decide +kernel
theorem dX7_append_27 : decode cX7_append 27 = .ok (.getfield 32, 3) := by decide +kernel
theorem dX7_append_30 : decode cX7_append 30 = .ok (.getfield 122, 3) := by decide +kernel
theorem dX7_append_33 : decode cX7_append 33 = .ok (.goto 5, 3) := by decide +kernel
theorem dX7_append_36 : decode cX7_append 36 = .ok (.bipush (-3), 2) := by decide +kernel
theorem dX7_append_38 : decode cX7_append 38 = .ok (.ireturn, 1) := by decide +kernel
theorem dX7_clearText_0 : decode cX7_clearText 0 = .ok (.aload_n 0, 1) := by decide +kernel
theorem dX7_clearText_1 : decode cX7_clearText 1 = .ok (.getfield 32, 3) := by decide +kernel
theorem dX7_clearText_4 : decode cX7_clearText 4 = .ok (.getfield 122, 3) := by decide +kernel
theorem dX7_clearText_7 : decode cX7_clearText 7 = .ok (.istore_n 1, 1) := by decide +kernel
theorem dX7_clearText_8 : decode cX7_clearText 8 = .ok (.aload_n 0, 1) := by decide +kernel
theorem dX7_clearText_9 : decode cX7_clearText 9 = .ok (.getfield 32, 3) := by decide +kernel
theorem dX7_clearText_12 : decode cX7_clearText 12 = .ok (.iconst 0, 1) := by decide +kernel
theorem dX7_clearText_13 : decode cX7_clearText 13 = .ok (.putfield 122, 3) := by decide +kernel
theorem dX7_clearText_16 : decode cX7_clearText 16 = .ok (.iload_n 1, 1) := by decide +kernel
theorem dX7_clearText_17 : decode cX7_clearText 17 = .ok (.ireturn, 1) := by decide +kernel
theorem dX7_fault_0 : decode cX7_fault 0 = .ok (.aload_n 0, 1) := by decide +kernel
theorem dX7_fault_1 : decode cX7_fault 1 = .ok (.getfield 32, 3) := by decide +kernel
theorem dX7_fault_4 : decode cX7_fault 4 = .ok (.invokevirtual 125, 3) := by decide +kernel
theorem dX7_fault_7 : decode cX7_fault 7 = .ok (.ireturn, 1) := by decide +kernel
theorem dX7_run_0 : decode cX7_run 0 = .ok (.aload_n 0, 1) := by decide +kernel
theorem dX7_run_1 : decode cX7_run 1 = .ok (.getfield 32, 3) := by decide +kernel
theorem dX7_run_4 : decode cX7_run 4 = .ok (.invokevirtual 125, 3) := by decide +kernel
theorem dX7_run_7 : decode cX7_run 7 = .ok (.istore_n 1, 1) := by decide +kernel
theorem dX7_run_8 : decode cX7_run 8 = .ok (.iload_n 1, 1) := by decide +kernel
theorem dX7_run_9 : decode cX7_run 9 = .ok (.bipush (-5), 2) := by decide +kernel
theorem dX7_run_11 : decode cX7_run 11 = .ok (.if_icmp .eq 8, 3) := by decide +kernel
theorem dX7_run_14 : decode cX7_run 14 = .ok (.bipush (-100), 2) := by decide +kernel
theorem dX7_run_16 : decode cX7_run 16 = .ok (.iload_n 1, 1) := by decide +kernel
theorem dX7_run_17 : decode cX7_run 17 = .ok (.isub, 1) := by decide +kernel
theorem dX7_run_18 : decode cX7_run 18 = .ok (.ireturn, 1) := by decide +kernel
theorem dX7_run_19 : decode cX7_run 19 = .ok (.aload_n 0, 1) := by decide +kernel
theorem dX7_run_20 : decode cX7_run 20 = .ok (.getfield 25, 3) := by decide +kernel
theorem dX7_run_23 : decode cX7_run 23 = .ok (.aload_n 0, 1) := by decide +kernel
theorem dX7_run_24 : decode cX7_run 24 = .ok (.getfield 12, 3) := by decide +kernel
theorem dX7_run_27 : decode cX7_run 27 = .ok (.invokevirtual 63, 3) := by decide +kernel
theorem dX7_run_30 : decode cX7_run 30 = .ok (.aload_n 0, 1) := by decide +kernel
theorem dX7_run_31 : decode cX7_run 31 = .ok (.getfield 32, 3) := by decide +kernel
theorem dX7_run_34 : decode cX7_run 34 = .ok (.aload_n 0, 1) := by decide +kernel
theorem dX7_run_35 : decode cX7_run 35 = .ok (.getfield 12, 3) := by decide +kernel
theorem dX7_run_38 : decode cX7_run 38 = .ok (.invokevirtual 128, 3) := by decide +kernel
theorem dX7_run_41 : decode cX7_run 41 = .ok (.ireturn, 1) := by decide +kernel
theorem dX7_undo_0 : decode cX7_undo 0 = .ok (.aload_n 0, 1) := by decide +kernel
theorem dX7_undo_1 : decode cX7_undo 1 = .ok (.getfield 25, 3) := by decide +kernel
theorem dX7_undo_4 : decode cX7_undo 4 = .ok (.aload_n 0, 1) := by decide +kernel
theorem dX7_undo_5 : decode cX7_undo 5 = .ok (.getfield 12, 3) := by decide +kernel
theorem dX7_undo_8 : decode cX7_undo 8 = .ok (.invokevirtual 132, 3) := by decide +kernel
theorem dX7_undo_11 : decode cX7_undo 11 = .ok (.ireturn, 1) := by decide +kernel
theorem dX7_save_0 : decode cX7_save 0 = .ok (.aload_n 0, 1) := by decide +kernel
theorem dX7_save_1 : decode cX7_save 1 = .ok (.getfield 19, 3) := by decide +kernel
theorem dX7_save_4 : decode cX7_save 4 = .ok (.aload_n 0, 1) := by decide +kernel
theorem dX7_save_5 : decode cX7_save 5 = .ok (.getfield 12, 3) := by decide +kernel
theorem dX7_save_8 : decode cX7_save 8 = .ok (.invokevirtual 135, 3) := by decide +kernel
theorem dX7_save_11 : decode cX7_save 11 = .ok (.aload_n 0, 1) := by decide +kernel
theorem dX7_save_12 : decode cX7_save 12 = .ok (.iconst 1, 1) := by decide +kernel
theorem dX7_save_13 : decode cX7_save 13 = .ok (.putfield 43, 3) := by decide +kernel
theorem dX7_save_16 : decode cX7_save 16 = .ok (.aload_n 0, 1) := by decide +kernel
theorem dX7_save_17 : decode cX7_save 17 = .ok (.getfield 12, 3) := by decide +kernel
theorem dX7_save_20 : decode cX7_save 20 = .ok (.getfield 138, 3) := by decide +kernel
theorem dX7_save_23 : decode cX7_save 23 = .ok (.ireturn, 1) := by decide +kernel
theorem dX7_restore_0 : decode cX7_restore 0 = .ok (.aload_n 0, 1) := by decide +kernel
theorem dX7_restore_1 : decode cX7_restore 1 = .ok (.getfield 43, 3) := by decide +kernel
theorem dX7_restore_4 : decode cX7_restore 4 = .ok (.ifCond .ne 6, 3) := by decide +kernel
theorem dX7_restore_7 : decode cX7_restore 7 = .ok (.bipush (-4), 2) := by decide +kernel
theorem dX7_restore_9 : decode cX7_restore 9 = .ok (.ireturn, 1) := by decide +kernel
theorem dX7_restore_10 : decode cX7_restore 10 = .ok (.aload_n 0, 1) := by decide +kernel
theorem dX7_restore_11 : decode cX7_restore 11 = .ok (.getfield 25, 3) := by decide +kernel
theorem dX7_restore_14 : decode cX7_restore 14 = .ok (.aload_n 0, 1) := by decide +kernel
theorem dX7_restore_15 : decode cX7_restore 15 = .ok (.getfield 12, 3) := by decide +kernel
theorem dX7_restore_18 : decode cX7_restore 18 = .ok (.invokevirtual 63, 3) := by decide +kernel
theorem dX7_restore_21 : decode cX7_restore 21 = .ok (.aload_n 0, 1) := by decide +kernel
theorem dX7_restore_22 : decode cX7_restore 22 = .ok (.getfield 12, 3) := by decide +kernel
theorem dX7_restore_25 : decode cX7_restore 25 = .ok (.aload_n 0, 1) := by decide +kernel
theorem dX7_restore_26 : decode cX7_restore 26 = .ok (.getfield 19, 3) := by decide +kernel
theorem dX7_restore_29 : decode cX7_restore 29 = .ok (.invokevirtual 135, 3) := by decide +kernel
theorem dX7_restore_32 : decode cX7_restore 32 = .ok (.aload_n 0, 1) := by decide +kernel
theorem dX7_restore_33 : decode cX7_restore 33 = .ok (.getfield 12, 3) := by decide +kernel
theorem dX7_restore_36 : decode cX7_restore 36 = .ok (.getfield 138, 3) := by decide +kernel
theorem dX7_restore_39 : decode cX7_restore 39 = .ok (.ireturn, 1) := by decide +kernel
theorem dX7_player_0 : decode cX7_player 0 = .ok (.aload_n 0, 1) := by decide +kernel
theorem dX7_player_1 : decode cX7_player 1 = .ok (.getfield 12, 3) := by decide +kernel
theorem dX7_player_4 : decode cX7_player 4 = .ok (.iload_n 1, 1) := by decide +kernel
theorem dX7_player_5 : decode cX7_player 5 = .ok (.invokevirtual 141, 3) := by decide +kernel
theorem dX7_player_8 : decode cX7_player 8 = .ok (.astore_n 3, 1) := by decide +kernel
theorem dX7_player_9 : decode cX7_player 9 = .ok (.aload_n 3, 1) := by decide +kernel
theorem dX7_player_10 : decode cX7_player 10 = .ok (.ifnonnull 5, 3) := by decide +kernel
theorem dX7_player_13 : decode cX7_player 13 = .ok (.iconst (-1), 1) := by decide +kernel
theorem dX7_player_14 : decode cX7_player 14 = .ok (.ireturn, 1) := by decide +kernel
theorem dX7_player_15 : decode cX7_player 15 = .ok (.iload_n 2, 1) := by decide +kernel
theorem dX7_player_16 : decode cX7_player 16 = .ok (.tableswitch 92 0 7 #[48, 53, 62, 67, 72, 77, 82, 87], 48) := by decide +kernel
theorem dX7_player_64 : decode cX7_player 64 = .ok (.aload_n 3, 1) := by decide +kernel
theorem dX7_player_65 : decode cX7_player 65 = .ok (.getfield 145, 3) := by decide +kernel
theorem dX7_player_68 : decode cX7_player 68 = .ok (.ireturn, 1) := by decide +kernel
theorem dX7_player_69 : decode cX7_player 69 = .ok (.aload_n 3, 1) := by decide +kernel
theorem dX7_player_70 : decode cX7_player 70 = .ok (.getfield 150, 3) := by decide +kernel
theorem dX7_player_73 : decode cX7_player 73 = .ok (.sipush 1000, 3) := by decide +kernel
theorem dX7_player_76 : decode cX7_player 76 = .ok (.iadd, 1) := by decide +kernel
theorem dX7_player_77 : decode cX7_player 77 = .ok (.ireturn, 1) := by decide +kernel
theorem dX7_player_78 : decode cX7_player 78 = .ok (.aload_n 3, 1) := by decide +kernel
theorem dX7_player_79 : decode cX7_player 79 = .ok (.getfield 153, 3) := by decide +kernel
theorem dX7_player_82 : decode cX7_player 82 = .ok (.ireturn, 1) := by decide +kernel
theorem dX7_player_83 : decode cX7_player 83 = .ok (.aload_n 3, 1) := by decide +kernel
theorem dX7_player_84 : decode cX7_player 84 = .ok (.invokevirtual 156, 3) := by decide +kernel
theorem dX7_player_87 : decode cX7_player 87 = .ok (.ireturn, 1) := by decide +kernel
theorem dX7_player_88 : decode cX7_player 88 = .ok (.aload_n 3, 1) := by decide +kernel
theorem dX7_player_89 : decode cX7_player 89 = .ok (.invokevirtual 159, 3) := by decide +kernel
theorem dX7_player_92 : decode cX7_player 92 = .ok (.ireturn, 1) := by decide +kernel
theorem dX7_player_93 : decode cX7_player 93 = .ok (.aload_n 3, 1) := by decide +kernel
theorem dX7_player_94 : decode cX7_player 94 = .ok (.getfield 162, 3) := by decide +kernel
theorem dX7_player_97 : decode cX7_player 97 = .ok (.ireturn, 1) := by decide +kernel
theorem dX7_player_98 : decode cX7_player 98 = .ok (.aload_n 3, 1) := by decide +kernel
theorem dX7_player_99 : decode cX7_player 99 = .ok (.getfield 165, 3) := by decide +kernel
theorem dX7_player_102 : decode cX7_player 102 = .ok (.ireturn, 1) := by decide +kernel
theorem dX7_player_103 : decode cX7_player 103 = .ok (.aload_n 3, 1) := by decide +kernel
theorem dX7_player_104 : decode cX7_player 104 = .ok (.getfield 168, 3) := by decide +kernel
theorem dX7_player_107 : decode cX7_player 107 = .ok (.ireturn, 1) := by decide +kernel
theorem dX7_player_108 : decode cX7_player 108 = .ok (.bipush (-2), 2) := by decide +kernel
theorem dX7_player_110 : decode cX7_player 110 = .ok (.ireturn, 1) := by decide +kernel
theorem dX7_bite_0 : decode cX7_bite 0 = .ok (.aload_n 0, 1) := by decide +kernel
theorem dX7_bite_1 : decode cX7_bite 1 = .ok (.getfield 12, 3) := by decide +kernel
theorem dX7_bite_4 : decode cX7_bite 4 = .ok (.iload_n 1, 1) := by decide +kernel
theorem dX7_bite_5 : decode cX7_bite 5 = .ok (.iload_n 2, 1) := by decide +kernel
theorem dX7_bite_6 : decode cX7_bite 6 = .ok (.invokevirtual 171, 3) := by decide +kernel
theorem dX7_bite_9 : decode cX7_bite 9 = .ok (.astore 4, 2) := by decide +kernel
theorem dX7_bite_11 : decode cX7_bite 11 = .ok (.aload 4, 2) := by decide +kernel
theorem dX7_bite_13 : decode cX7_bite 13 = .ok (.ifnonnull 5, 3) := by decide +kernel
theorem dX7_bite_16 : decode cX7_bite 16 = .ok (.iconst (-1), 1) := by decide +kernel
theorem dX7_bite_17 : decode cX7_bite 17 = .ok (.ireturn, 1) := by decide +kernel
theorem dX7_bite_18 : decode cX7_bite 18 = .ok (.iload_n 3, 1) := by decide +kernel
theorem dX7_bite_19 : decode cX7_bite 19 = .ok (.tableswitch 53 0 3 #[29, 35, 41, 47], 29) := by decide +kernel
theorem dX7_bite_48 : decode cX7_bite 48 = .ok (.aload 4, 2) := by decide +kernel
theorem dX7_bite_50 : decode cX7_bite 50 = .ok (.getfield 175, 3) := by decide +kernel
theorem dX7_bite_53 : decode cX7_bite 53 = .ok (.ireturn, 1) := by decide +kernel
theorem dX7_bite_54 : decode cX7_bite 54 = .ok (.aload 4, 2) := by decide +kernel
theorem dX7_bite_56 : decode cX7_bite 56 = .ok (.getfield 180, 3) := by decide +kernel
theorem dX7_bite_59 : decode cX7_bite 59 = .ok (.ireturn, 1) := by decide +kernel
theorem dX7_bite_60 : decode cX7_bite 60 = .ok (.aload 4, 2) := by decide +kernel
theorem dX7_bite_62 : decode cX7_bite 62 = .ok (.getfield 183, 3) := by decide +kernel
theorem dX7_bite_65 : decode cX7_bite 65 = .ok (.ireturn, 1) := by decide +kernel
theorem dX7_bite_66 : decode cX7_bite 66 = .ok (.aload 4, 2) := by decide +kernel
theorem dX7_bite_68 : decode cX7_bite 68 = .ok (.getfield 186, 3) := by decide +kernel
theorem dX7_bite_71 : decode cX7_bite 71 = .ok (.ireturn, 1) := by decide +kernel
theorem dX7_bite_72 : decode cX7_bite 72 = .ok (.bipush (-2), 2) := by decide +kernel
theorem dX7_bite_74 : decode cX7_bite 74 = .ok (.ireturn, 1) := by decide +kernel
theorem dX7_snakeOf_0 : decode cX7_snakeOf 0 = .ok (.aload_n 0, 1) := by decide +kernel
theorem dX7_snakeOf_1 : decode cX7_snakeOf 1 = .ok (.getfield 12, 3) := by decide +kernel
theorem dX7_snakeOf_4 : decode cX7_snakeOf 4 = .ok (.iload_n 1, 1) := by decide +kernel
theorem dX7_snakeOf_5 : decode cX7_snakeOf 5 = .ok (.invokevirtual 73, 3) := by decide +kernel
theorem dX7_snakeOf_8 : decode cX7_snakeOf 8 = .ok (.astore_n 3, 1) := by decide +kernel
theorem dX7_snakeOf_9 : decode cX7_snakeOf 9 = .ok (.aload_n 3, 1) := by decide +kernel
theorem dX7_snakeOf_10 : decode cX7_snakeOf 10 = .ok (.ifnonnull 5, 3) := by decide +kernel
theorem dX7_snakeOf_13 : decode cX7_snakeOf 13 = .ok (.iconst (-1), 1) := by decide +kernel
theorem dX7_snakeOf_14 : decode cX7_snakeOf 14 = .ok (.ireturn, 1) := by decide +kernel
theorem dX7_snakeOf_15 : decode cX7_snakeOf 15 = .ok (.iload_n 2, 1) := by decide +kernel
theorem dX7_snakeOf_16 : decode cX7_snakeOf 16 = .ok (.tableswitch 52 0 3 #[32, 37, 42, 47], 32) := by decide +kernel
theorem dX7_snakeOf_48 : decode cX7_snakeOf 48 = .ok (.aload_n 3, 1) := by decide +kernel
theorem dX7_snakeOf_49 : decode cX7_snakeOf 49 = .ok (.getfield 189, 3) := by decide +kernel
theorem dX7_snakeOf_52 : decode cX7_snakeOf 52 = .ok (.ireturn, 1) := by decide +kernel
theorem dX7_snakeOf_53 : decode cX7_snakeOf 53 = .ok (.aload_n 3, 1) := by decide +kernel
theorem dX7_snakeOf_54 : decode cX7_snakeOf 54 = .ok (.getfield 192, 3) := by decide +kernel
theorem dX7_snakeOf_57 : decode cX7_snakeOf 57 = .ok (.ireturn, 1) := by decide +kernel
theorem dX7_snakeOf_58 : decode cX7_snakeOf 58 = .ok (.aload_n 3, 1) := by decide +kernel
theorem dX7_snakeOf_59 : decode cX7_snakeOf 59 = .ok (.getfield 76, 3) := by decide +kernel
theorem dX7_snakeOf_62 : decode cX7_snakeOf 62 = .ok (.ireturn, 1) := by decide +kernel
theorem dX7_snakeOf_63 : decode cX7_snakeOf 63 = .ok (.aload_n 3, 1) := by decide +kernel
theorem dX7_snakeOf_64 : decode cX7_snakeOf 64 = .ok (.getfield 195, 3) := by decide +kernel
theorem dX7_snakeOf_67 : decode cX7_snakeOf 67 = .ok (.ireturn, 1) := by decide +kernel
theorem dX7_snakeOf_68 : decode cX7_snakeOf 68 = .ok (.bipush (-2), 2) := by decide +kernel
theorem dX7_snakeOf_70 : decode cX7_snakeOf 70 = .ok (.ireturn, 1) := by decide +kernel
theorem dX7_square_0 : decode cX7_square 0 = .ok (.iload_n 1, 1) := by decide +kernel
theorem dX7_square_1 : decode cX7_square 1 = .ok (.ifCond .lt 9, 3) := by decide +kernel
theorem dX7_square_4 : decode cX7_square 4 = .ok (.iload_n 1, 1) := by decide +kernel
theorem dX7_square_5 : decode cX7_square 5 = .ok (.bipush 60, 2) := by decide +kernel
theorem dX7_square_7 : decode cX7_square 7 = .ok (.if_icmp .le 6, 3) := by decide +kernel
theorem dX7_square_10 : decode cX7_square 10 = .ok (.bipush (-2), 2) := by decide +kernel
theorem dX7_square_12 : decode cX7_square 12 = .ok (.ireturn, 1) := by decide +kernel
theorem dX7_square_13 : decode cX7_square 13 = .ok (.iload_n 2, 1) := by decide +kernel
theorem dX7_square_14 : decode cX7_square 14 = .ok (.tableswitch 53 0 2 #[26, 35, 44], 26) := by decide +kernel
theorem dX7_square_40 : decode cX7_square 40 = .ok (.aload_n 0, 1) := by decide +kernel
theorem dX7_square_41 : decode cX7_square 41 = .ok (.getfield 12, 3) := by decide +kernel
theorem dX7_square_44 : decode cX7_square 44 = .ok (.iload_n 1, 1) := by decide +kernel
theorem dX7_square_45 : decode cX7_square 45 = .ok (.invokevirtual 198, 3) := by decide +kernel
theorem dX7_square_48 : decode cX7_square 48 = .ok (.ireturn, 1) := by decide +kernel
theorem dX7_square_49 : decode cX7_square 49 = .ok (.aload_n 0, 1) := by decide +kernel
theorem dX7_square_50 : decode cX7_square 50 = .ok (.getfield 12, 3) := by decide +kernel
theorem dX7_square_53 : decode cX7_square 53 = .ok (.iload_n 1, 1) := by decide +kernel
theorem dX7_square_54 : decode cX7_square 54 = .ok (.invokevirtual 51, 3) := by decide +kernel
theorem dX7_square_57 : decode cX7_square 57 = .ok (.ireturn, 1) := by decide +kernel
theorem dX7_square_58 : decode cX7_square 58 = .ok (.aload_n 0, 1) := by decide +kernel
theorem dX7_square_59 : decode cX7_square 59 = .ok (.getfield 12, 3) := by decide +kernel
theorem dX7_square_62 : decode cX7_square 62 = .ok (.iload_n 1, 1) := by decide +kernel
theorem dX7_square_63 : decode cX7_square 63 = .ok (.invokevirtual 201, 3) := by decide +kernel
theorem dX7_square_66 : decode cX7_square 66 = .ok (.ireturn, 1) := by decide +kernel
theorem dX7_square_67 : decode cX7_square 67 = .ok (.bipush (-2), 2) := by decide +kernel
theorem dX7_square_69 : decode cX7_square 69 = .ok (.ireturn, 1) := by decide +kernel
theorem dX7_count_0 : decode cX7_count 0 = .ok (.iload_n 1, 1) := by decide +kernel
theorem dX7_count_1 : decode cX7_count 1 = .ok (.tableswitch 174 0 12 #[67, 75, 83, 91, 99, 107, 115, 123, 131, 140, 149, 158, 166], 67) := by decide +kernel
theorem dX7_count_68 : decode cX7_count 68 = .ok (.aload_n 0, 1) := by decide +kernel
theorem dX7_count_69 : decode cX7_count 69 = .ok (.getfield 12, 3) := by decide +kernel
theorem dX7_count_72 : decode cX7_count 72 = .ok (.getfield 138, 3) := by decide +kernel
theorem dX7_count_75 : decode cX7_count 75 = .ok (.ireturn, 1) := by decide +kernel
theorem dX7_count_76 : decode cX7_count 76 = .ok (.aload_n 0, 1) := by decide +kernel
theorem dX7_count_77 : decode cX7_count 77 = .ok (.getfield 12, 3) := by decide +kernel
theorem dX7_count_80 : decode cX7_count 80 = .ok (.getfield 204, 3) := by decide +kernel
theorem dX7_count_83 : decode cX7_count 83 = .ok (.ireturn, 1) := by decide +kernel
theorem dX7_count_84 : decode cX7_count 84 = .ok (.aload_n 0, 1) := by decide +kernel
theorem dX7_count_85 : decode cX7_count 85 = .ok (.getfield 12, 3) := by decide +kernel
theorem dX7_count_88 : decode cX7_count 88 = .ok (.invokevirtual 207, 3) := by decide +kernel
theorem dX7_count_91 : decode cX7_count 91 = .ok (.ireturn, 1) := by decide +kernel
theorem dX7_count_92 : decode cX7_count 92 = .ok (.aload_n 0, 1) := by decide +kernel
theorem dX7_count_93 : decode cX7_count 93 = .ok (.getfield 12, 3) := by decide +kernel
theorem dX7_count_96 : decode cX7_count 96 = .ok (.invokevirtual 210, 3) := by decide +kernel
theorem dX7_count_99 : decode cX7_count 99 = .ok (.ireturn, 1) := by decide +kernel
theorem dX7_count_100 : decode cX7_count 100 = .ok (.aload_n 0, 1) := by decide +kernel
theorem dX7_count_101 : decode cX7_count 101 = .ok (.getfield 12, 3) := by decide +kernel
theorem dX7_count_104 : decode cX7_count 104 = .ok (.invokevirtual 213, 3) := by decide +kernel
theorem dX7_count_107 : decode cX7_count 107 = .ok (.ireturn, 1) := by decide +kernel
theorem dX7_count_108 : decode cX7_count 108 = .ok (.aload_n 0, 1) := by decide +kernel
theorem dX7_count_109 : decode cX7_count 109 = .ok (.getfield 12, 3) := by decide +kernel
theorem dX7_count_112 : decode cX7_count 112 = .ok (.getfield 216, 3) := by decide +kernel
theorem dX7_count_115 : decode cX7_count 115 = .ok (.ireturn, 1) := by decide +kernel
theorem dX7_count_116 : decode cX7_count 116 = .ok (.aload_n 0, 1) := by decide +kernel
theorem dX7_count_117 : decode cX7_count 117 = .ok (.getfield 12, 3) := by decide +kernel
theorem dX7_count_120 : decode cX7_count 120 = .ok (.getfield 219, 3) := by decide +kernel
theorem dX7_count_123 : decode cX7_count 123 = .ok (.ireturn, 1) := by decide +kernel
theorem dX7_count_124 : decode cX7_count 124 = .ok (.aload_n 0, 1) := by decide +kernel
theorem dX7_count_125 : decode cX7_count 125 = .ok (.getfield 12, 3) := by decide +kernel
theorem dX7_count_128 : decode cX7_count 128 = .ok (.invokevirtual 222, 3) := by decide +kernel
theorem dX7_count_131 : decode cX7_count 131 = .ok (.ireturn, 1) := by decide +kernel
theorem dX7_count_132 : decode cX7_count 132 = .ok (.aload_n 0, 1) := by decide +kernel
theorem dX7_count_133 : decode cX7_count 133 = .ok (.getfield 12, 3) := by decide +kernel
theorem dX7_count_136 : decode cX7_count 136 = .ok (.iconst 0, 1) := by decide +kernel
theorem dX7_count_137 : decode cX7_count 137 = .ok (.invokevirtual 113, 3) := by decide +kernel
theorem dX7_count_140 : decode cX7_count 140 = .ok (.ireturn, 1) := by decide +kernel
theorem dX7_count_141 : decode cX7_count 141 = .ok (.aload_n 0, 1) := by decide +kernel
theorem dX7_count_142 : decode cX7_count 142 = .ok (.getfield 12, 3) := by decide +kernel
theorem dX7_count_145 : decode cX7_count 145 = .ok (.iconst 1, 1) := by decide +kernel
theorem dX7_count_146 : decode cX7_count 146 = .ok (.invokevirtual 113, 3) := by decide +kernel
theorem dX7_count_149 : decode cX7_count 149 = .ok (.ireturn, 1) := by decide +kernel
theorem dX7_count_150 : decode cX7_count 150 = .ok (.aload_n 0, 1) := by decide +kernel
theorem dX7_count_151 : decode cX7_count 151 = .ok (.getfield 12, 3) := by decide +kernel
theorem dX7_count_154 : decode cX7_count 154 = .ok (.iconst 2, 1) := by decide +kernel
theorem dX7_count_155 : decode cX7_count 155 = .ok (.invokevirtual 113, 3) := by decide +kernel
theorem dX7_count_158 : decode cX7_count 158 = .ok (.ireturn, 1) := by decide +kernel
theorem dX7_count_159 : decode cX7_count 159 = .ok (.aload_n 0, 1) := by decide +kernel
theorem dX7_count_160 : decode cX7_count 160 = .ok (.getfield 25, 3) := by decide +kernel
theorem dX7_count_163 : decode cX7_count 163 = .ok (.getfield 225, 3) := by decide +kernel
theorem dX7_count_166 : decode cX7_count 166 = .ok (.ireturn, 1) := by decide +kernel
theorem dX7_count_167 : decode cX7_count 167 = .ok (.aload_n 0, 1) := by decide +kernel
theorem dX7_count_168 : decode cX7_count 168 = .ok (.getfield 32, 3) := by decide +kernel
theorem dX7_count_171 : decode cX7_count 171 = .ok (.getfield 122, 3) := by decide +kernel
theorem dX7_count_174 : decode cX7_count 174 = .ok (.ireturn, 1) := by decide +kernel
theorem dX7_count_175 : decode cX7_count 175 = .ok (.bipush (-2), 2) := by decide +kernel
theorem dX7_count_177 : decode cX7_count 177 = .ok (.ireturn, 1) := by decide +kernel
theorem dX7_why_0 : decode cX7_why 0 = .ok (.aload_n 0, 1) := by decide +kernel
theorem dX7_why_1 : decode cX7_why 1 = .ok (.getfield 12, 3) := by decide +kernel
theorem dX7_why_4 : decode cX7_why 4 = .ok (.iload_n 1, 1) := by decide +kernel
theorem dX7_why_5 : decode cX7_why 5 = .ok (.iload_n 2, 1) := by decide +kernel
theorem dX7_why_6 : decode cX7_why 6 = .ok (.iload_n 3, 1) := by decide +kernel
theorem dX7_why_7 : decode cX7_why 7 = .ok (.iload 4, 2) := by decide +kernel
theorem dX7_why_9 : decode cX7_why 9 = .ok (.invokevirtual 100, 3) := by decide +kernel
theorem dX7_why_12 : decode cX7_why 12 = .ok (.ireturn, 1) := by decide +kernel
theorem dX7_cheapest_0 : decode cX7_cheapest 0 = .ok (.aload_n 0, 1) := by decide +kernel
theorem dX7_cheapest_1 : decode cX7_cheapest 1 = .ok (.getfield 12, 3) := by decide +kernel
theorem dX7_cheapest_4 : decode cX7_cheapest 4 = .ok (.iload_n 1, 1) := by decide +kernel
theorem dX7_cheapest_5 : decode cX7_cheapest 5 = .ok (.iload_n 2, 1) := by decide +kernel
theorem dX7_cheapest_6 : decode cX7_cheapest 6 = .ok (.invokevirtual 171, 3) := by decide +kernel
theorem dX7_cheapest_9 : decode cX7_cheapest 9 = .ok (.astore_n 3, 1) := by decide +kernel
theorem dX7_cheapest_10 : decode cX7_cheapest 10 = .ok (.aload_n 3, 1) := by decide +kernel
theorem dX7_cheapest_11 : decode cX7_cheapest 11 = .ok (.ifnonnull 5, 3) := by decide +kernel
theorem dX7_cheapest_14 : decode cX7_cheapest 14 = .ok (.iconst (-1), 1) := by decide +kernel
theorem dX7_cheapest_15 : decode cX7_cheapest 15 = .ok (.ireturn, 1) := by decide +kernel
theorem dX7_cheapest_16 : decode cX7_cheapest 16 = .ok (.bipush (-5), 2) := by decide +kernel
theorem dX7_cheapest_18 : decode cX7_cheapest 18 = .ok (.istore 4, 2) := by decide +kernel
theorem dX7_cheapest_20 : decode cX7_cheapest 20 = .ok (.bipush 100, 2) := by decide +kernel
theorem dX7_cheapest_22 : decode cX7_cheapest 22 = .ok (.istore 5, 2) := by decide +kernel
theorem dX7_cheapest_24 : decode cX7_cheapest 24 = .ok (.iconst 0, 1) := by decide +kernel
theorem dX7_cheapest_25 : decode cX7_cheapest 25 = .ok (.istore 6, 2) := by decide +kernel
theorem dX7_cheapest_27 : decode cX7_cheapest 27 = .ok (.iload 6, 2) := by decide +kernel
theorem dX7_cheapest_29 : decode cX7_cheapest 29 = .ok (.iconst 4, 1) := by decide +kernel
theorem dX7_cheapest_30 : decode cX7_cheapest 30 = .ok (.if_icmp .ge 58, 3) := by decide +kernel
theorem dX7_cheapest_33 : decode cX7_cheapest 33 = .ok (.aload_n 0, 1) := by decide +kernel
theorem dX7_cheapest_34 : decode cX7_cheapest 34 = .ok (.getfield 12, 3) := by decide +kernel
theorem dX7_cheapest_37 : decode cX7_cheapest 37 = .ok (.iload 6, 2) := by decide +kernel
theorem dX7_cheapest_39 : decode cX7_cheapest 39 = .ok (.aload_n 3, 1) := by decide +kernel
theorem dX7_cheapest_40 : decode cX7_cheapest 40 = .ok (.invokevirtual 226, 3) := by decide +kernel
theorem dX7_cheapest_43 : decode cX7_cheapest 43 = .ok (.istore 7, 2) := by decide +kernel
theorem dX7_cheapest_45 : decode cX7_cheapest 45 = .ok (.iload 7, 2) := by decide +kernel
theorem dX7_cheapest_47 : decode cX7_cheapest 47 = .ok (.iload 5, 2) := by decide +kernel
theorem dX7_cheapest_49 : decode cX7_cheapest 49 = .ok (.if_icmp .ge 33, 3) := by decide +kernel
theorem dX7_cheapest_52 : decode cX7_cheapest 52 = .ok (.aload_n 0, 1) := by decide +kernel
theorem dX7_cheapest_53 : decode cX7_cheapest 53 = .ok (.getfield 12, 3) := by decide +kernel
theorem dX7_cheapest_56 : decode cX7_cheapest 56 = .ok (.iload_n 1, 1) := by decide +kernel
theorem dX7_cheapest_57 : decode cX7_cheapest 57 = .ok (.iload_n 2, 1) := by decide +kernel
theorem dX7_cheapest_58 : decode cX7_cheapest 58 = .ok (.iload 6, 2) := by decide +kernel
theorem dX7_cheapest_60 : decode cX7_cheapest 60 = .ok (.iload 7, 2) := by decide +kernel
theorem dX7_cheapest_62 : decode cX7_cheapest 62 = .ok (.invokevirtual 100, 3) := by decide +kernel
theorem dX7_cheapest_65 : decode cX7_cheapest 65 = .ok (.ifCond .ne 17, 3) := by decide +kernel
theorem dX7_cheapest_68 : decode cX7_cheapest 68 = .ok (.iload 7, 2) := by decide +kernel
theorem dX7_cheapest_70 : decode cX7_cheapest 70 = .ok (.istore 5, 2) := by decide +kernel
theorem dX7_cheapest_72 : decode cX7_cheapest 72 = .ok (.bipush 100, 2) := by decide +kernel
theorem dX7_cheapest_74 : decode cX7_cheapest 74 = .ok (.iload 6, 2) := by decide +kernel
theorem dX7_cheapest_76 : decode cX7_cheapest 76 = .ok (.imul, 1) := by decide +kernel
theorem dX7_cheapest_77 : decode cX7_cheapest 77 = .ok (.iload 7, 2) := by decide +kernel
theorem dX7_cheapest_79 : decode cX7_cheapest 79 = .ok (.iadd, 1) := by decide +kernel
theorem dX7_cheapest_80 : decode cX7_cheapest 80 = .ok (.istore 4, 2) := by decide +kernel
theorem dX7_cheapest_82 : decode cX7_cheapest 82 = .ok (.iinc 6 1, 3) := by decide +kernel
theorem dX7_cheapest_85 : decode cX7_cheapest 85 = .ok (.goto (-58), 3) := by decide +kernel
theorem dX7_cheapest_88 : decode cX7_cheapest 88 = .ok (.iload 4, 2) := by decide +kernel
theorem dX7_cheapest_90 : decode cX7_cheapest 90 = .ok (.ireturn, 1) := by decide +kernel
theorem dX7_dangers_0 : decode cX7_dangers 0 = .ok (.aload_n 0, 1) := by decide +kernel
theorem dX7_dangers_1 : decode cX7_dangers 1 = .ok (.getfield 12, 3) := by decide +kernel
theorem dX7_dangers_4 : decode cX7_dangers 4 = .ok (.iload_n 1, 1) := by decide +kernel
theorem dX7_dangers_5 : decode cX7_dangers 5 = .ok (.invokevirtual 141, 3) := by decide +kernel
theorem dX7_dangers_8 : decode cX7_dangers 8 = .ok (.astore_n 2, 1) := by decide +kernel
theorem dX7_dangers_9 : decode cX7_dangers 9 = .ok (.aload_n 2, 1) := by decide +kernel
theorem dX7_dangers_10 : decode cX7_dangers 10 = .ok (.ifnonnull 5, 3) := by decide +kernel
theorem dX7_dangers_13 : decode cX7_dangers 13 = .ok (.iconst (-1), 1) := by decide +kernel
theorem dX7_dangers_14 : decode cX7_dangers 14 = .ok (.ireturn, 1) := by decide +kernel
theorem dX7_dangers_15 : decode cX7_dangers 15 = .ok (.aload_n 2, 1) := by decide +kernel
theorem dX7_dangers_16 : decode cX7_dangers 16 = .ok (.invokevirtual 230, 3) := by decide +kernel
theorem dX7_dangers_19 : decode cX7_dangers 19 = .ok (.ifCond .ne 6, 3) := by decide +kernel
theorem dX7_dangers_22 : decode cX7_dangers 22 = .ok (.bipush (-4), 2) := by decide +kernel
theorem dX7_dangers_24 : decode cX7_dangers 24 = .ok (.ireturn, 1) := by decide +kernel
theorem dX7_dangers_25 : decode cX7_dangers 25 = .ok (.aload_n 2, 1) := by decide +kernel
theorem dX7_dangers_26 : decode cX7_dangers 26 = .ok (.invokevirtual 159, 3) := by decide +kernel
theorem dX7_dangers_29 : decode cX7_dangers 29 = .ok (.istore_n 3, 1) := by decide +kernel
theorem dX7_dangers_30 : decode cX7_dangers 30 = .ok (.iconst 0, 1) := by decide +kernel
theorem dX7_dangers_31 : decode cX7_dangers 31 = .ok (.istore 4, 2) := by decide +kernel
theorem dX7_dangers_33 : decode cX7_dangers 33 = .ok (.iconst 1, 1) := by decide +kernel
theorem dX7_dangers_34 : decode cX7_dangers 34 = .ok (.istore 5, 2) := by decide +kernel
theorem dX7_dangers_36 : decode cX7_dangers 36 = .ok (.iload 5, 2) := by decide +kernel
theorem dX7_dangers_38 : decode cX7_dangers 38 = .ok (.bipush 6, 2) := by decide +kernel
theorem dX7_dangers_40 : decode cX7_dangers 40 = .ok (.if_icmp .gt 35, 3) := by decide +kernel
theorem dX7_dangers_43 : decode cX7_dangers 43 = .ok (.aload_n 0, 1) := by decide +kernel
theorem dX7_dangers_44 : decode cX7_dangers 44 = .ok (.getfield 12, 3) := by decide +kernel
theorem dX7_dangers_47 : decode cX7_dangers 47 = .ok (.iload_n 1, 1) := by decide +kernel
end
section
theorem dX7_dangers_48 : decode cX7_dangers 48 = .ok (.iload_n 3, 1) := by decide +kernel
theorem dX7_dangers_49 : decode cX7_dangers 49 = .ok (.iload 5, 2) := by decide +kernel
theorem dX7_dangers_51 : decode cX7_dangers 51 = .ok (.invokestatic 233, 3) := by decide +kernel
theorem dX7_dangers_54 : decode cX7_dangers 54 = .ok (.invokevirtual 237, 3) := by decide +kernel
theorem dX7_dangers_57 : decode cX7_dangers 57 = .ok (.ifnull 12, 3) := by decide +kernel
theorem dX7_dangers_60 : decode cX7_dangers 60 = .ok (.iload 4, 2) := by decide +kernel
theorem dX7_dangers_62 : decode cX7_dangers 62 = .ok (.iconst 1, 1) := by decide +kernel
theorem dX7_dangers_63 : decode cX7_dangers 63 = .ok (.iload 5, 2) := by decide +kernel
theorem dX7_dangers_65 : decode cX7_dangers 65 = .ok (.ishl, 1) := by decide +kernel
theorem dX7_dangers_66 : decode cX7_dangers 66 = .ok (.ior, 1) := by decide +kernel
theorem dX7_dangers_67 : decode cX7_dangers 67 = .ok (.istore 4, 2) := by decide +kernel
theorem dX7_dangers_69 : decode cX7_dangers 69 = .ok (.iinc 5 1, 3) := by decide +kernel
theorem dX7_dangers_72 : decode cX7_dangers 72 = .ok (.goto (-36), 3) := by decide +kernel
theorem dX7_dangers_75 : decode cX7_dangers 75 = .ok (.iload 4, 2) := by decide +kernel
theorem dX7_dangers_77 : decode cX7_dangers 77 = .ok (.ireturn, 1) := by decide +kernel
theorem dX7_fewest_0 : decode cX7_fewest 0 = .ok (.aload_n 0, 1) := by decide +kernel
theorem dX7_fewest_1 : decode cX7_fewest 1 = .ok (.getfield 12, 3) := by decide +kernel
theorem dX7_fewest_4 : decode cX7_fewest 4 = .ok (.iload_n 1, 1) := by decide +kernel
theorem dX7_fewest_5 : decode cX7_fewest 5 = .ok (.invokevirtual 141, 3) := by decide +kernel
theorem dX7_fewest_8 : decode cX7_fewest 8 = .ok (.astore_n 3, 1) := by decide +kernel
theorem dX7_fewest_9 : decode cX7_fewest 9 = .ok (.aload_n 3, 1) := by decide +kernel
theorem dX7_fewest_10 : decode cX7_fewest 10 = .ok (.ifnonnull 5, 3) := by decide +kernel
theorem dX7_fewest_13 : decode cX7_fewest 13 = .ok (.iconst (-1), 1) := by decide +kernel
theorem dX7_fewest_14 : decode cX7_fewest 14 = .ok (.ireturn, 1) := by decide +kernel
theorem dX7_fewest_15 : decode cX7_fewest 15 = .ok (.iload_n 2, 1) := by decide +kernel
theorem dX7_fewest_16 : decode cX7_fewest 16 = .ok (.ifCond .eq 11, 3) := by decide +kernel
theorem dX7_fewest_19 : decode cX7_fewest 19 = .ok (.iload_n 2, 1) := by decide +kernel
theorem dX7_fewest_20 : decode cX7_fewest 20 = .ok (.iconst 1, 1) := by decide +kernel
theorem dX7_fewest_21 : decode cX7_fewest 21 = .ok (.if_icmp .eq 6, 3) := by decide +kernel
theorem dX7_fewest_24 : decode cX7_fewest 24 = .ok (.bipush (-2), 2) := by decide +kernel
theorem dX7_fewest_26 : decode cX7_fewest 26 = .ok (.ireturn, 1) := by decide +kernel
theorem dX7_fewest_27 : decode cX7_fewest 27 = .ok (.aload_n 3, 1) := by decide +kernel
theorem dX7_fewest_28 : decode cX7_fewest 28 = .ok (.invokevirtual 230, 3) := by decide +kernel
theorem dX7_fewest_31 : decode cX7_fewest 31 = .ok (.ifCond .ne 5, 3) := by decide +kernel
theorem dX7_fewest_34 : decode cX7_fewest 34 = .ok (.iconst 0, 1) := by decide +kernel
theorem dX7_fewest_35 : decode cX7_fewest 35 = .ok (.ireturn, 1) := by decide +kernel
theorem dX7_fewest_36 : decode cX7_fewest 36 = .ok (.aload_n 3, 1) := by decide +kernel
theorem dX7_fewest_37 : decode cX7_fewest 37 = .ok (.invokevirtual 159, 3) := by decide +kernel
theorem dX7_fewest_40 : decode cX7_fewest 40 = .ok (.istore 4, 2) := by decide +kernel
theorem dX7_fewest_42 : decode cX7_fewest 42 = .ok (.iload_n 2, 1) := by decide +kernel
theorem dX7_fewest_43 : decode cX7_fewest 43 = .ok (.ifCond .ne 19, 3) := by decide +kernel
theorem dX7_fewest_46 : decode cX7_fewest 46 = .ok (.aload_n 0, 1) := by decide +kernel
theorem dX7_fewest_47 : decode cX7_fewest 47 = .ok (.getfield 39, 3) := by decide +kernel
theorem dX7_fewest_50 : decode cX7_fewest 50 = .ok (.aload_n 0, 1) := by decide +kernel
theorem dX7_fewest_51 : decode cX7_fewest 51 = .ok (.getfield 12, 3) := by decide +kernel
theorem dX7_fewest_54 : decode cX7_fewest 54 = .ok (.iload 4, 2) := by decide +kernel
theorem dX7_fewest_56 : decode cX7_fewest 56 = .ok (.invokevirtual 241, 3) := by decide +kernel
theorem dX7_fewest_59 : decode cX7_fewest 59 = .ok (.goto 16, 3) := by decide +kernel
theorem dX7_fewest_62 : decode cX7_fewest 62 = .ok (.aload_n 0, 1) := by decide +kernel
theorem dX7_fewest_63 : decode cX7_fewest 63 = .ok (.getfield 39, 3) := by decide +kernel
theorem dX7_fewest_66 : decode cX7_fewest 66 = .ok (.aload_n 0, 1) := by decide +kernel
theorem dX7_fewest_67 : decode cX7_fewest 67 = .ok (.getfield 12, 3) := by decide +kernel
theorem dX7_fewest_70 : decode cX7_fewest 70 = .ok (.iload 4, 2) := by decide +kernel
theorem dX7_fewest_72 : decode cX7_fewest 72 = .ok (.invokevirtual 245, 3) := by decide +kernel
theorem dX7_fewest_75 : decode cX7_fewest 75 = .ok (.ireturn, 1) := by decide +kernel
theorem dX7_nextHome_0 : decode cX7_nextHome 0 = .ok (.iload_n 1, 1) := by decide +kernel
theorem dX7_nextHome_1 : decode cX7_nextHome 1 = .ok (.invokestatic 90, 3) := by decide +kernel
theorem dX7_nextHome_4 : decode cX7_nextHome 4 = .ok (.ifCond .ne 6, 3) := by decide +kernel
theorem dX7_nextHome_7 : decode cX7_nextHome 7 = .ok (.bipush (-2), 2) := by decide +kernel
theorem dX7_nextHome_9 : decode cX7_nextHome 9 = .ok (.ireturn, 1) := by decide +kernel
theorem dX7_nextHome_10 : decode cX7_nextHome 10 = .ok (.aload_n 0, 1) := by decide +kernel
theorem dX7_nextHome_11 : decode cX7_nextHome 11 = .ok (.getfield 12, 3) := by decide +kernel
theorem dX7_nextHome_14 : decode cX7_nextHome 14 = .ok (.invokevirtual 83, 3) := by decide +kernel
theorem dX7_nextHome_17 : decode cX7_nextHome 17 = .ok (.ifCond .eq 6, 3) := by decide +kernel
theorem dX7_nextHome_20 : decode cX7_nextHome 20 = .ok (.bipush (-4), 2) := by decide +kernel
theorem dX7_nextHome_22 : decode cX7_nextHome 22 = .ok (.ireturn, 1) := by decide +kernel
theorem dX7_nextHome_23 : decode cX7_nextHome 23 = .ok (.aload_n 0, 1) := by decide +kernel
theorem dX7_nextHome_24 : decode cX7_nextHome 24 = .ok (.getfield 16, 3) := by decide +kernel
theorem dX7_nextHome_27 : decode cX7_nextHome 27 = .ok (.aload_n 0, 1) := by decide +kernel
theorem dX7_nextHome_28 : decode cX7_nextHome 28 = .ok (.getfield 12, 3) := by decide +kernel
theorem dX7_nextHome_31 : decode cX7_nextHome 31 = .ok (.invokevirtual 135, 3) := by decide +kernel
theorem dX7_nextHome_34 : decode cX7_nextHome 34 = .ok (.iload_n 1, 1) := by decide +kernel
theorem dX7_nextHome_35 : decode cX7_nextHome 35 = .ok (.istore_n 2, 1) := by decide +kernel
theorem dX7_nextHome_36 : decode cX7_nextHome 36 = .ok (.iconst 0, 1) := by decide +kernel
theorem dX7_nextHome_37 : decode cX7_nextHome 37 = .ok (.istore_n 3, 1) := by decide +kernel
theorem dX7_nextHome_38 : decode cX7_nextHome 38 = .ok (.iload_n 3, 1) := by decide +kernel
theorem dX7_nextHome_39 : decode cX7_nextHome 39 = .ok (.sipush 200, 3) := by decide +kernel
theorem dX7_nextHome_42 : decode cX7_nextHome 42 = .ok (.if_icmp .ge 42, 3) := by decide +kernel
theorem dX7_nextHome_45 : decode cX7_nextHome 45 = .ok (.aload_n 0, 1) := by decide +kernel
theorem dX7_nextHome_46 : decode cX7_nextHome 46 = .ok (.getfield 16, 3) := by decide +kernel
theorem dX7_nextHome_49 : decode cX7_nextHome 49 = .ok (.getfield 204, 3) := by decide +kernel
theorem dX7_nextHome_52 : decode cX7_nextHome 52 = .ok (.istore 4, 2) := by decide +kernel
theorem dX7_nextHome_54 : decode cX7_nextHome 54 = .ok (.iload_n 2, 1) := by decide +kernel
theorem dX7_nextHome_55 : decode cX7_nextHome 55 = .ok (.invokestatic 94, 3) := by decide +kernel
theorem dX7_nextHome_58 : decode cX7_nextHome 58 = .ok (.istore_n 2, 1) := by decide +kernel
theorem dX7_nextHome_59 : decode cX7_nextHome 59 = .ok (.aload_n 0, 1) := by decide +kernel
theorem dX7_nextHome_60 : decode cX7_nextHome 60 = .ok (.getfield 16, 3) := by decide +kernel
theorem dX7_nextHome_63 : decode cX7_nextHome 63 = .ok (.iload_n 2, 1) := by decide +kernel
theorem dX7_nextHome_64 : decode cX7_nextHome 64 = .ok (.invokestatic 97, 3) := by decide +kernel
theorem dX7_nextHome_67 : decode cX7_nextHome 67 = .ok (.invokevirtual 87, 3) := by decide +kernel
theorem dX7_nextHome_70 : decode cX7_nextHome 70 = .ok (.bipush 60, 2) := by decide +kernel
theorem dX7_nextHome_72 : decode cX7_nextHome 72 = .ok (.if_icmp .ne 6, 3) := by decide +kernel
theorem dX7_nextHome_75 : decode cX7_nextHome 75 = .ok (.iload 4, 2) := by decide +kernel
theorem dX7_nextHome_77 : decode cX7_nextHome 77 = .ok (.ireturn, 1) := by decide +kernel
theorem dX7_nextHome_78 : decode cX7_nextHome 78 = .ok (.iinc 3 1, 3) := by decide +kernel
theorem dX7_nextHome_81 : decode cX7_nextHome 81 = .ok (.goto (-43), 3) := by decide +kernel
theorem dX7_nextHome_84 : decode cX7_nextHome 84 = .ok (.bipush (-5), 2) := by decide +kernel
theorem dX7_nextHome_86 : decode cX7_nextHome 86 = .ok (.ireturn, 1) := by decide +kernel
theorem dX7_progress_0 : decode cX7_progress 0 = .ok (.aload_n 0, 1) := by decide +kernel
theorem dX7_progress_1 : decode cX7_progress 1 = .ok (.getfield 12, 3) := by decide +kernel
theorem dX7_progress_4 : decode cX7_progress 4 = .ok (.iload_n 1, 1) := by decide +kernel
theorem dX7_progress_5 : decode cX7_progress 5 = .ok (.invokevirtual 141, 3) := by decide +kernel
theorem dX7_progress_8 : decode cX7_progress 8 = .ok (.astore_n 2, 1) := by decide +kernel
theorem dX7_progress_9 : decode cX7_progress 9 = .ok (.aload_n 2, 1) := by decide +kernel
theorem dX7_progress_10 : decode cX7_progress 10 = .ok (.ifnonnull 7, 3) := by decide +kernel
theorem dX7_progress_13 : decode cX7_progress 13 = .ok (.dconst 0, 1) := by decide +kernel
theorem dX7_progress_14 : decode cX7_progress 14 = .ok (.goto 12, 3) := by decide +kernel
theorem dX7_progress_17 : decode cX7_progress 17 = .ok (.aload_n 2, 1) := by decide +kernel
theorem dX7_progress_18 : decode cX7_progress 18 = .ok (.invokevirtual 159, 3) := by decide +kernel
theorem dX7_progress_21 : decode cX7_progress 21 = .ok (.i2d, 1) := by decide +kernel
theorem dX7_progress_22 : decode cX7_progress 22 = .ok (.ldc2_w 248, 3) := by decide +kernel
theorem dX7_progress_25 : decode cX7_progress 25 = .ok (.ddiv, 1) := by decide +kernel
theorem dX7_progress_26 : decode cX7_progress 26 = .ok (.dreturn, 1) := by decide +kernel
theorem dX7_isSnakeForm_0 : decode cX7_isSnakeForm 0 = .ok (.iload_n 0, 1) := by decide +kernel
theorem dX7_isSnakeForm_1 : decode cX7_isSnakeForm 1 = .ok (.bipush 7, 2) := by decide +kernel
theorem dX7_isSnakeForm_3 : decode cX7_isSnakeForm 3 = .ok (.if_icmp .lt 40, 3) := by decide +kernel
theorem dX7_isSnakeForm_6 : decode cX7_isSnakeForm 6 = .ok (.iload_n 0, 1) := by decide +kernel
theorem dX7_isSnakeForm_7 : decode cX7_isSnakeForm 7 = .ok (.bipush 59, 2) := by decide +kernel
theorem dX7_isSnakeForm_9 : decode cX7_isSnakeForm 9 = .ok (.if_icmp .gt 34, 3) := by decide +kernel
theorem dX7_isSnakeForm_12 : decode cX7_isSnakeForm 12 = .ok (.iload_n 1, 1) := by decide +kernel
theorem dX7_isSnakeForm_13 : decode cX7_isSnakeForm 13 = .ok (.iconst 1, 1) := by decide +kernel
theorem dX7_isSnakeForm_14 : decode cX7_isSnakeForm 14 = .ok (.if_icmp .lt 29, 3) := by decide +kernel
theorem dX7_isSnakeForm_17 : decode cX7_isSnakeForm 17 = .ok (.iload_n 1, 1) := by decide +kernel
theorem dX7_isSnakeForm_18 : decode cX7_isSnakeForm 18 = .ok (.bipush 53, 2) := by decide +kernel
theorem dX7_isSnakeForm_20 : decode cX7_isSnakeForm 20 = .ok (.if_icmp .gt 23, 3) := by decide +kernel
theorem dX7_isSnakeForm_23 : decode cX7_isSnakeForm 23 = .ok (.iload_n 0, 1) := by decide +kernel
theorem dX7_isSnakeForm_24 : decode cX7_isSnakeForm 24 = .ok (.iload_n 1, 1) := by decide +kernel
theorem dX7_isSnakeForm_25 : decode cX7_isSnakeForm 25 = .ok (.isub, 1) := by decide +kernel
theorem dX7_isSnakeForm_26 : decode cX7_isSnakeForm 26 = .ok (.bipush 6, 2) := by decide +kernel
theorem dX7_isSnakeForm_28 : decode cX7_isSnakeForm 28 = .ok (.if_icmp .lt 15, 3) := by decide +kernel
theorem dX7_isSnakeForm_31 : decode cX7_isSnakeForm 31 = .ok (.iload_n 0, 1) := by decide +kernel
theorem dX7_isSnakeForm_32 : decode cX7_isSnakeForm 32 = .ok (.iload_n 1, 1) := by decide +kernel
theorem dX7_isSnakeForm_33 : decode cX7_isSnakeForm 33 = .ok (.isub, 1) := by decide +kernel
theorem dX7_isSnakeForm_34 : decode cX7_isSnakeForm 34 = .ok (.bipush 40, 2) := by decide +kernel
theorem dX7_isSnakeForm_36 : decode cX7_isSnakeForm 36 = .ok (.if_icmp .gt 7, 3) := by decide +kernel
theorem dX7_isSnakeForm_39 : decode cX7_isSnakeForm 39 = .ok (.iconst 1, 1) := by decide +kernel
theorem dX7_isSnakeForm_40 : decode cX7_isSnakeForm 40 = .ok (.goto 4, 3) := by decide +kernel
theorem dX7_isSnakeForm_43 : decode cX7_isSnakeForm 43 = .ok (.iconst 0, 1) := by decide +kernel
theorem dX7_isSnakeForm_44 : decode cX7_isSnakeForm 44 = .ok (.ireturn, 1) := by decide +kernel
theorem dX7_leastValue_0 : decode cX7_leastValue 0 = .ok (.iload_n 0, 1) := by decide +kernel
theorem dX7_leastValue_1 : decode cX7_leastValue 1 = .ok (.iconst 2, 1) := by decide +kernel
theorem dX7_leastValue_2 : decode cX7_leastValue 2 = .ok (.if_icmp .ne 7, 3) := by decide +kernel
theorem dX7_leastValue_5 : decode cX7_leastValue 5 = .ok (.iconst 1, 1) := by decide +kernel
theorem dX7_leastValue_6 : decode cX7_leastValue 6 = .ok (.goto 4, 3) := by decide +kernel
theorem dX7_leastValue_9 : decode cX7_leastValue 9 = .ok (.iconst 0, 1) := by decide +kernel
theorem dX7_leastValue_10 : decode cX7_leastValue 10 = .ok (.ireturn, 1) := by decide +kernel
theorem dX7_highestValue_0 : decode cX7_highestValue 0 = .ok (.iload_n 0, 1) := by decide +kernel
theorem dX7_highestValue_1 : decode cX7_highestValue 1 = .ok (.lookupswitch 33 #[(0, 27), (1, 30)], 27) := by decide +kernel
theorem dX7_highestValue_28 : decode cX7_highestValue 28 = .ok (.bipush 9, 2) := by decide +kernel
theorem dX7_highestValue_30 : decode cX7_highestValue 30 = .ok (.ireturn, 1) := by decide +kernel
theorem dX7_highestValue_31 : decode cX7_highestValue 31 = .ok (.bipush 50, 2) := by decide +kernel
theorem dX7_highestValue_33 : decode cX7_highestValue 33 = .ok (.ireturn, 1) := by decide +kernel
theorem dX7_highestValue_34 : decode cX7_highestValue 34 = .ok (.iconst 3, 1) := by decide +kernel
theorem dX7_highestValue_35 : decode cX7_highestValue 35 = .ok (.ireturn, 1) := by decide +kernel
theorem dX7_isDraw_0 : decode cX7_isDraw 0 = .ok (.iload_n 0, 1) := by decide +kernel
theorem dX7_isDraw_1 : decode cX7_isDraw 1 = .ok (.ifCond .lt 13, 3) := by decide +kernel
theorem dX7_isDraw_4 : decode cX7_isDraw 4 = .ok (.iload_n 0, 1) := by decide +kernel
theorem dX7_isDraw_5 : decode cX7_isDraw 5 = .ok (.ldc 250, 2) := by decide +kernel
theorem dX7_isDraw_7 : decode cX7_isDraw 7 = .ok (.if_icmp .gt 7, 3) := by decide +kernel
theorem dX7_isDraw_10 : decode cX7_isDraw 10 = .ok (.iconst 1, 1) := by decide +kernel
theorem dX7_isDraw_11 : decode cX7_isDraw 11 = .ok (.goto 4, 3) := by decide +kernel
theorem dX7_isDraw_14 : decode cX7_isDraw 14 = .ok (.iconst 0, 1) := by decide +kernel
theorem dX7_isDraw_15 : decode cX7_isDraw 15 = .ok (.ireturn, 1) := by decide +kernel
theorem dX7_drawAfter_0 : decode cX7_drawAfter 0 = .ok (.sipush 25173, 3) := by decide +kernel
theorem dX7_drawAfter_3 : decode cX7_drawAfter 3 = .ok (.iload_n 0, 1) := by decide +kernel
theorem dX7_drawAfter_4 : decode cX7_drawAfter 4 = .ok (.imul, 1) := by decide +kernel
theorem dX7_drawAfter_5 : decode cX7_drawAfter 5 = .ok (.sipush 13849, 3) := by decide +kernel
theorem dX7_drawAfter_8 : decode cX7_drawAfter 8 = .ok (.iadd, 1) := by decide +kernel
theorem dX7_drawAfter_9 : decode cX7_drawAfter 9 = .ok (.ldc 251, 2) := by decide +kernel
theorem dX7_drawAfter_11 : decode cX7_drawAfter 11 = .ok (.irem, 1) := by decide +kernel
theorem dX7_drawAfter_12 : decode cX7_drawAfter 12 = .ok (.ireturn, 1) := by decide +kernel
theorem dX7_throwOf_0 : decode cX7_throwOf 0 = .ok (.iconst 1, 1) := by decide +kernel
theorem dX7_throwOf_1 : decode cX7_throwOf 1 = .ok (.iload_n 0, 1) := by decide +kernel
theorem dX7_throwOf_2 : decode cX7_throwOf 2 = .ok (.sipush 10923, 3) := by decide +kernel
theorem dX7_throwOf_5 : decode cX7_throwOf 5 = .ok (.idiv, 1) := by decide +kernel
theorem dX7_throwOf_6 : decode cX7_throwOf 6 = .ok (.iadd, 1) := by decide +kernel
theorem dX7_throwOf_7 : decode cX7_throwOf 7 = .ok (.ireturn, 1) := by decide +kernel
theorem dX7_landing_0 : decode cX7_landing 0 = .ok (.iload_n 0, 1) := by decide +kernel
theorem dX7_landing_1 : decode cX7_landing 1 = .ok (.iload_n 1, 1) := by decide +kernel
theorem dX7_landing_2 : decode cX7_landing 2 = .ok (.iadd, 1) := by decide +kernel
theorem dX7_landing_3 : decode cX7_landing 3 = .ok (.istore_n 2, 1) := by decide +kernel
theorem dX7_landing_4 : decode cX7_landing 4 = .ok (.iload_n 2, 1) := by decide +kernel
theorem dX7_landing_5 : decode cX7_landing 5 = .ok (.bipush 60, 2) := by decide +kernel
theorem dX7_landing_7 : decode cX7_landing 7 = .ok (.if_icmp .le 10, 3) := by decide +kernel
theorem dX7_landing_10 : decode cX7_landing 10 = .ok (.bipush 120, 2) := by decide +kernel
theorem dX7_landing_12 : decode cX7_landing 12 = .ok (.iload_n 2, 1) := by decide +kernel
theorem dX7_landing_13 : decode cX7_landing 13 = .ok (.isub, 1) := by decide +kernel
theorem dX7_landing_14 : decode cX7_landing 14 = .ok (.goto 4, 3) := by decide +kernel
theorem dX7_landing_17 : decode cX7_landing 17 = .ok (.iload_n 2, 1) := by decide +kernel
theorem dX7_landing_18 : decode cX7_landing 18 = .ok (.ireturn, 1) := by decide +kernel
theorem dX8_init_0 : decode cX8_init 0 = .ok (.aload_n 0, 1) := by decide +kernel
theorem dX8_init_1 : decode cX8_init 1 = .ok (.invokespecial 1, 3) := by decide +kernel
theorem dX8_init_4 : decode cX8_init 4 = .ok (.aload_n 0, 1) := by decide +kernel
theorem dX8_init_5 : decode cX8_init 5 = .ok (.sipush 392, 3) := by decide +kernel
theorem dX8_init_8 : decode cX8_init 8 = .ok (.newarray .int, 2) := by decide +kernel
theorem dX8_init_10 : decode cX8_init 10 = .ok (.putfield 7, 3) := by decide +kernel
theorem dX8_init_13 : decode cX8_init 13 = .ok (.aload_n 0, 1) := by decide +kernel
theorem dX8_init_14 : decode cX8_init 14 = .ok (.sipush 1960, 3) := by decide +kernel
theorem dX8_init_17 : decode cX8_init 17 = .ok (.newarray .int, 2) := by decide +kernel
theorem dX8_init_19 : decode cX8_init 19 = .ok (.putfield 13, 3) := by decide +kernel
theorem dX8_init_22 : decode cX8_init 22 = .ok (.aload_n 0, 1) := by decide +kernel
theorem dX8_init_23 : decode cX8_init 23 = .ok (.sipush 392, 3) := by decide +kernel
theorem dX8_init_26 : decode cX8_init 26 = .ok (.newarray .int, 2) := by decide +kernel
theorem dX8_init_28 : decode cX8_init 28 = .ok (.putfield 16, 3) := by decide +kernel
theorem dX8_init_31 : decode cX8_init 31 = .ok (.aload_n 0, 1) := by decide +kernel
theorem dX8_init_32 : decode cX8_init 32 = .ok (.sipush 392, 3) := by decide +kernel
theorem dX8_init_35 : decode cX8_init 35 = .ok (.newarray .int, 2) := by decide +kernel
theorem dX8_init_37 : decode cX8_init 37 = .ok (.putfield 19, 3) := by decide +kernel
theorem dX8_init_40 : decode cX8_init 40 = .ok (.aload_n 0, 1) := by decide +kernel
theorem dX8_init_41 : decode cX8_init 41 = .ok (.bipush 60, 2) := by decide +kernel
theorem dX8_init_43 : decode cX8_init 43 = .ok (.newarray .int, 2) := by decide +kernel
theorem dX8_init_45 : decode cX8_init 45 = .ok (.putfield 22, 3) := by decide +kernel
theorem dX8_init_48 : decode cX8_init 48 = .ok (.aload_n 0, 1) := by decide +kernel
theorem dX8_init_49 : decode cX8_init 49 = .ok (.iconst 4, 1) := by decide +kernel
theorem dX8_init_50 : decode cX8_init 50 = .ok (.newarray .int, 2) := by decide +kernel
theorem dX8_init_52 : decode cX8_init 52 = .ok (.putfield 25, 3) := by decide +kernel
theorem dX8_init_55 : decode cX8_init 55 = .ok (.aload_n 0, 1) := by decide +kernel
theorem dX8_init_56 : decode cX8_init 56 = .ok (.bipush 61, 2) := by decide +kernel
theorem dX8_init_58 : decode cX8_init 58 = .ok (.newarray .boolean, 2) := by decide +kernel
theorem dX8_init_60 : decode cX8_init 60 = .ok (.putfield 28, 3) := by decide +kernel
theorem dX8_init_63 : decode cX8_init 63 = .ok (.aload_n 0, 1) := by decide +kernel
theorem dX8_init_64 : decode cX8_init 64 = .ok (.bipush 61, 2) := by decide +kernel
theorem dX8_init_66 : decode cX8_init 66 = .ok (.newarray .boolean, 2) := by decide +kernel
theorem dX8_init_68 : decode cX8_init 68 = .ok (.putfield 32, 3) := by decide +kernel
theorem dX8_init_71 : decode cX8_init 71 = .ok (.aload_n 0, 1) := by decide +kernel
theorem dX8_init_72 : decode cX8_init 72 = .ok (.getfield 7, 3) := by decide +kernel
theorem dX8_init_75 : decode cX8_init 75 = .ok (.iconst 5, 1) := by decide +kernel
theorem dX8_init_76 : decode cX8_init 76 = .ok (.iconst 2, 1) := by decide +kernel
theorem dX8_init_77 : decode cX8_init 77 = .ok (.iastore, 1) := by decide +kernel
theorem dX8_init_78 : decode cX8_init 78 = .ok (.aload_n 0, 1) := by decide +kernel
theorem dX8_init_79 : decode cX8_init 79 = .ok (.getfield 7, 3) := by decide +kernel
theorem dX8_init_82 : decode cX8_init 82 = .ok (.bipush 6, 2) := by decide +kernel
theorem dX8_init_84 : decode cX8_init 84 = .ok (.bipush 20, 2) := by decide +kernel
theorem dX8_init_86 : decode cX8_init 86 = .ok (.iastore, 1) := by decide +kernel
theorem dX8_init_87 : decode cX8_init 87 = .ok (.aload_n 0, 1) := by decide +kernel
theorem dX8_init_88 : decode cX8_init 88 = .ok (.getfield 7, 3) := by decide +kernel
theorem dX8_init_91 : decode cX8_init 91 = .ok (.bipush 7, 2) := by decide +kernel
theorem dX8_init_93 : decode cX8_init 93 = .ok (.iconst 2, 1) := by decide +kernel
theorem dX8_init_94 : decode cX8_init 94 = .ok (.iastore, 1) := by decide +kernel
theorem dX8_init_95 : decode cX8_init 95 = .ok (.iconst 0, 1) := by decide +kernel
theorem dX8_init_96 : decode cX8_init 96 = .ok (.istore_n 1, 1) := by decide +kernel
theorem dX8_init_97 : decode cX8_init 97 = .ok (.iload_n 1, 1) := by decide +kernel
theorem dX8_init_98 : decode cX8_init 98 = .ok (.iconst 4, 1) := by decide +kernel
theorem dX8_init_99 : decode cX8_init 99 = .ok (.if_icmp .ge 25, 3) := by decide +kernel
theorem dX8_init_102 : decode cX8_init 102 = .ok (.aload_n 0, 1) := by decide +kernel
theorem dX8_init_103 : decode cX8_init 103 = .ok (.getfield 7, 3) := by decide +kernel
theorem dX8_init_106 : decode cX8_init 106 = .ok (.bipush 8, 2) := by decide +kernel
theorem dX8_init_108 : decode cX8_init 108 = .ok (.bipush 6, 2) := by decide +kernel
theorem dX8_init_110 : decode cX8_init 110 = .ok (.iload_n 1, 1) := by decide +kernel
theorem dX8_init_111 : decode cX8_init 111 = .ok (.imul, 1) := by decide +kernel
theorem dX8_init_112 : decode cX8_init 112 = .ok (.iadd, 1) := by decide +kernel
theorem dX8_init_113 : decode cX8_init 113 = .ok (.iconst 1, 1) := by decide +kernel
theorem dX8_init_114 : decode cX8_init 114 = .ok (.iadd, 1) := by decide +kernel
theorem dX8_init_115 : decode cX8_init 115 = .ok (.bipush 10, 2) := by decide +kernel
theorem dX8_init_117 : decode cX8_init 117 = .ok (.iastore, 1) := by decide +kernel
theorem dX8_init_118 : decode cX8_init 118 = .ok (.iinc 1 1, 3) := by decide +kernel
theorem dX8_init_121 : decode cX8_init 121 = .ok (.goto (-24), 3) := by decide +kernel
theorem dX8_init_124 : decode cX8_init 124 = .ok (.return_, 1) := by decide +kernel
theorem dX8_in_0 : decode cX8_in 0 = .ok (.iload_n 0, 1) := by decide +kernel
theorem dX8_in_1 : decode cX8_in 1 = .ok (.iload_n 1, 1) := by decide +kernel
theorem dX8_in_2 : decode cX8_in 2 = .ok (.if_icmp .lt 12, 3) := by decide +kernel
theorem dX8_in_5 : decode cX8_in 5 = .ok (.iload_n 0, 1) := by decide +kernel
theorem dX8_in_6 : decode cX8_in 6 = .ok (.iload_n 2, 1) := by decide +kernel
theorem dX8_in_7 : decode cX8_in 7 = .ok (.if_icmp .gt 7, 3) := by decide +kernel
theorem dX8_in_10 : decode cX8_in 10 = .ok (.iconst 1, 1) := by decide +kernel
theorem dX8_in_11 : decode cX8_in 11 = .ok (.goto 4, 3) := by decide +kernel
theorem dX8_in_14 : decode cX8_in 14 = .ok (.iconst 0, 1) := by decide +kernel
theorem dX8_in_15 : decode cX8_in 15 = .ok (.ireturn, 1) := by decide +kernel
theorem dX8_isPlayer_0 : decode cX8_isPlayer 0 = .ok (.iload_n 0, 1) := by decide +kernel
theorem dX8_isPlayer_1 : decode cX8_isPlayer 1 = .ok (.iconst 0, 1) := by decide +kernel
theorem dX8_isPlayer_2 : decode cX8_isPlayer 2 = .ok (.iconst 3, 1) := by decide +kernel
theorem dX8_isPlayer_3 : decode cX8_isPlayer 3 = .ok (.invokestatic 35, 3) := by decide +kernel
theorem dX8_isPlayer_6 : decode cX8_isPlayer 6 = .ok (.ireturn, 1) := by decide +kernel
theorem dX8_of_0 : decode cX8_of 0 = .ok (.aload_n 0, 1) := by decide +kernel
theorem dX8_of_1 : decode cX8_of 1 = .ok (.getfield 7, 3) := by decide +kernel
theorem dX8_of_4 : decode cX8_of 4 = .ok (.bipush 8, 2) := by decide +kernel
theorem dX8_of_6 : decode cX8_of 6 = .ok (.bipush 6, 2) := by decide +kernel
theorem dX8_of_8 : decode cX8_of 8 = .ok (.iload_n 1, 1) := by decide +kernel
theorem dX8_of_9 : decode cX8_of 9 = .ok (.imul, 1) := by decide +kernel
theorem dX8_of_10 : decode cX8_of 10 = .ok (.iadd, 1) := by decide +kernel
theorem dX8_of_11 : decode cX8_of 11 = .ok (.iload_n 2, 1) := by decide +kernel
theorem dX8_of_12 : decode cX8_of 12 = .ok (.iadd, 1) := by decide +kernel
theorem dX8_of_13 : decode cX8_of 13 = .ok (.iaload, 1) := by decide +kernel
theorem dX8_of_14 : decode cX8_of 14 = .ok (.ireturn, 1) := by decide +kernel
theorem dX8_add_0 : decode cX8_add 0 = .ok (.aload_n 0, 1) := by decide +kernel
theorem dX8_add_1 : decode cX8_add 1 = .ok (.getfield 7, 3) := by decide +kernel
theorem dX8_add_4 : decode cX8_add 4 = .ok (.bipush 8, 2) := by decide +kernel
theorem dX8_add_6 : decode cX8_add 6 = .ok (.bipush 6, 2) := by decide +kernel
theorem dX8_add_8 : decode cX8_add 8 = .ok (.iload_n 1, 1) := by decide +kernel
theorem dX8_add_9 : decode cX8_add 9 = .ok (.imul, 1) := by decide +kernel
theorem dX8_add_10 : decode cX8_add 10 = .ok (.iadd, 1) := by decide +kernel
theorem dX8_add_11 : decode cX8_add 11 = .ok (.iload_n 2, 1) := by decide +kernel
theorem dX8_add_12 : decode cX8_add 12 = .ok (.iadd, 1) := by decide +kernel
theorem dX8_add_13 : decode cX8_add 13 = .ok (.dup2, 1) := by decide +kernel
theorem dX8_add_14 : decode cX8_add 14 = .ok (.iaload, 1) := by decide +kernel
theorem dX8_add_15 : decode cX8_add 15 = .ok (.iload_n 3, 1) := by decide +kernel
theorem dX8_add_16 : decode cX8_add 16 = .ok (.iadd, 1) := by decide +kernel
theorem dX8_add_17 : decode cX8_add 17 = .ok (.iastore, 1) := by decide +kernel
theorem dX8_add_18 : decode cX8_add 18 = .ok (.return_, 1) := by decide +kernel
theorem dX8_whereIs_0 : decode cX8_whereIs 0 = .ok (.bipush 32, 2) := by decide +kernel
theorem dX8_whereIs_2 : decode cX8_whereIs 2 = .ok (.iconst 4, 1) := by decide +kernel
theorem dX8_whereIs_3 : decode cX8_whereIs 3 = .ok (.bipush 20, 2) := by decide +kernel
theorem dX8_whereIs_5 : decode cX8_whereIs 5 = .ok (.iload_n 0, 1) := by decide +kernel
theorem dX8_whereIs_6 : decode cX8_whereIs 6 = .ok (.imul, 1) := by decide +kernel
theorem dX8_whereIs_7 : decode cX8_whereIs 7 = .ok (.iload_n 1, 1) := by decide +kernel
theorem dX8_whereIs_8 : decode cX8_whereIs 8 = .ok (.iadd, 1) := by decide +kernel
theorem dX8_whereIs_9 : decode cX8_whereIs 9 = .ok (.imul, 1) := by decide +kernel
theorem dX8_whereIs_10 : decode cX8_whereIs 10 = .ok (.iadd, 1) := by decide +kernel
theorem dX8_whereIs_11 : decode cX8_whereIs 11 = .ok (.ireturn, 1) := by decide +kernel
theorem dX8_isBite_0 : decode cX8_isBite 0 = .ok (.iload_n 1, 1) := by decide +kernel
theorem dX8_isBite_1 : decode cX8_isBite 1 = .ok (.invokestatic 39, 3) := by decide +kernel
theorem dX8_isBite_4 : decode cX8_isBite 4 = .ok (.ifCond .eq 23, 3) := by decide +kernel
theorem dX8_isBite_7 : decode cX8_isBite 7 = .ok (.iload_n 2, 1) := by decide +kernel
theorem dX8_isBite_8 : decode cX8_isBite 8 = .ok (.iconst 0, 1) := by decide +kernel
theorem dX8_isBite_9 : decode cX8_isBite 9 = .ok (.aload_n 0, 1) := by decide +kernel
theorem dX8_isBite_10 : decode cX8_isBite 10 = .ok (.iload_n 1, 1) := by decide +kernel
theorem dX8_isBite_11 : decode cX8_isBite 11 = .ok (.iconst 5, 1) := by decide +kernel
theorem dX8_isBite_12 : decode cX8_isBite 12 = .ok (.invokevirtual 43, 3) := by decide +kernel
theorem dX8_isBite_15 : decode cX8_isBite 15 = .ok (.iconst 1, 1) := by decide +kernel
theorem dX8_isBite_16 : decode cX8_isBite 16 = .ok (.isub, 1) := by decide +kernel
theorem dX8_isBite_17 : decode cX8_isBite 17 = .ok (.invokestatic 35, 3) := by decide +kernel
theorem dX8_isBite_20 : decode cX8_isBite 20 = .ok (.ifCond .eq 7, 3) := by decide +kernel
theorem dX8_isBite_23 : decode cX8_isBite 23 = .ok (.iconst 1, 1) := by decide +kernel
theorem dX8_isBite_24 : decode cX8_isBite 24 = .ok (.goto 4, 3) := by decide +kernel
theorem dX8_isBite_27 : decode cX8_isBite 27 = .ok (.iconst 0, 1) := by decide +kernel
theorem dX8_isBite_28 : decode cX8_isBite 28 = .ok (.ireturn, 1) := by decide +kernel
theorem dX8_ofSnake_0 : decode cX8_ofSnake 0 = .ok (.aload_n 0, 1) := by decide +kernel
theorem dX8_ofSnake_1 : decode cX8_ofSnake 1 = .ok (.getfield 7, 3) := by decide +kernel
theorem dX8_ofSnake_4 : decode cX8_ofSnake 4 = .ok (.sipush 352, 3) := by decide +kernel
theorem dX8_ofSnake_7 : decode cX8_ofSnake 7 = .ok (.iconst 4, 1) := by decide +kernel
theorem dX8_ofSnake_8 : decode cX8_ofSnake 8 = .ok (.iload_n 1, 1) := by decide +kernel
theorem dX8_ofSnake_9 : decode cX8_ofSnake 9 = .ok (.imul, 1) := by decide +kernel
theorem dX8_ofSnake_10 : decode cX8_ofSnake 10 = .ok (.iadd, 1) := by decide +kernel
theorem dX8_ofSnake_11 : decode cX8_ofSnake 11 = .ok (.iload_n 2, 1) := by decide +kernel
theorem dX8_ofSnake_12 : decode cX8_ofSnake 12 = .ok (.iadd, 1) := by decide +kernel
theorem dX8_ofSnake_13 : decode cX8_ofSnake 13 = .ok (.iaload, 1) := by decide +kernel
theorem dX8_ofSnake_14 : decode cX8_ofSnake 14 = .ok (.ireturn, 1) := by decide +kernel
theorem dX8_isSnake_0 : decode cX8_isSnake 0 = .ok (.iload_n 1, 1) := by decide +kernel
theorem dX8_isSnake_1 : decode cX8_isSnake 1 = .ok (.iconst 0, 1) := by decide +kernel
theorem dX8_isSnake_2 : decode cX8_isSnake 2 = .ok (.bipush 9, 2) := by decide +kernel
theorem dX8_isSnake_4 : decode cX8_isSnake 4 = .ok (.invokestatic 35, 3) := by decide +kernel
theorem dX8_isSnake_7 : decode cX8_isSnake 7 = .ok (.ifCond .eq 16, 3) := by decide +kernel
theorem dX8_isSnake_10 : decode cX8_isSnake 10 = .ok (.aload_n 0, 1) := by decide +kernel
theorem dX8_isSnake_11 : decode cX8_isSnake 11 = .ok (.iload_n 1, 1) := by decide +kernel
theorem dX8_isSnake_12 : decode cX8_isSnake 12 = .ok (.iconst 0, 1) := by decide +kernel
theorem dX8_isSnake_13 : decode cX8_isSnake 13 = .ok (.invokevirtual 47, 3) := by decide +kernel
theorem dX8_isSnake_16 : decode cX8_isSnake 16 = .ok (.ifCond .le 7, 3) := by decide +kernel
theorem dX8_isSnake_19 : decode cX8_isSnake 19 = .ok (.iconst 1, 1) := by decide +kernel
theorem dX8_isSnake_20 : decode cX8_isSnake 20 = .ok (.goto 4, 3) := by decide +kernel
theorem dX8_isSnake_23 : decode cX8_isSnake 23 = .ok (.iconst 0, 1) := by decide +kernel
theorem dX8_isSnake_24 : decode cX8_isSnake 24 = .ok (.ireturn, 1) := by decide +kernel
theorem dX8_isIn_0 : decode cX8_isIn 0 = .ok (.aload_n 0, 1) := by decide +kernel
theorem dX8_isIn_1 : decode cX8_isIn 1 = .ok (.iload_n 1, 1) := by decide +kernel
theorem dX8_isIn_2 : decode cX8_isIn 2 = .ok (.iconst 2, 1) := by decide +kernel
theorem dX8_isIn_3 : decode cX8_isIn 3 = .ok (.invokevirtual 43, 3) := by decide +kernel
theorem dX8_isIn_6 : decode cX8_isIn 6 = .ok (.ifCond .ne 7, 3) := by decide +kernel
theorem dX8_isIn_9 : decode cX8_isIn 9 = .ok (.iconst 1, 1) := by decide +kernel
theorem dX8_isIn_10 : decode cX8_isIn 10 = .ok (.goto 4, 3) := by decide +kernel
theorem dX8_isIn_13 : decode cX8_isIn 13 = .ok (.iconst 0, 1) := by decide +kernel
theorem dX8_isIn_14 : decode cX8_isIn 14 = .ok (.ireturn, 1) := by decide +kernel
theorem dX8_isOver_0 : decode cX8_isOver 0 = .ok (.aload_n 0, 1) := by decide +kernel
theorem dX8_isOver_1 : decode cX8_isOver 1 = .ok (.getfield 7, 3) := by decide +kernel
theorem dX8_isOver_4 : decode cX8_isOver 4 = .ok (.iconst 4, 1) := by decide +kernel
theorem dX8_isOver_5 : decode cX8_isOver 5 = .ok (.iaload, 1) := by decide +kernel
theorem dX8_isOver_6 : decode cX8_isOver 6 = .ok (.iconst 4, 1) := by decide +kernel
theorem dX8_isOver_7 : decode cX8_isOver 7 = .ok (.if_icmp .ne 7, 3) := by decide +kernel
theorem dX8_isOver_10 : decode cX8_isOver 10 = .ok (.iconst 1, 1) := by decide +kernel
theorem dX8_isOver_11 : decode cX8_isOver 11 = .ok (.goto 4, 3) := by decide +kernel
theorem dX8_isOver_14 : decode cX8_isOver 14 = .ok (.iconst 0, 1) := by decide +kernel
theorem dX8_isOver_15 : decode cX8_isOver 15 = .ok (.ireturn, 1) := by decide +kernel
theorem dX8_copy_0 : decode cX8_copy 0 = .ok (.iconst 0, 1) := by decide +kernel
theorem dX8_copy_1 : decode cX8_copy 1 = .ok (.istore 4, 2) := by decide +kernel
theorem dX8_copy_3 : decode cX8_copy 3 = .ok (.iload 4, 2) := by decide +kernel
theorem dX8_copy_5 : decode cX8_copy 5 = .ok (.sipush 392, 3) := by decide +kernel
theorem dX8_copy_8 : decode cX8_copy 8 = .ok (.if_icmp .ge 21, 3) := by decide +kernel
theorem dX8_copy_11 : decode cX8_copy 11 = .ok (.aload_n 2, 1) := by decide +kernel
theorem dX8_copy_12 : decode cX8_copy 12 = .ok (.iload_n 3, 1) := by decide +kernel
theorem dX8_copy_13 : decode cX8_copy 13 = .ok (.iload 4, 2) := by decide +kernel
theorem dX8_copy_15 : decode cX8_copy 15 = .ok (.iadd, 1) := by decide +kernel
theorem dX8_copy_16 : decode cX8_copy 16 = .ok (.aload_n 0, 1) := by decide +kernel
theorem dX8_copy_17 : decode cX8_copy 17 = .ok (.iload_n 1, 1) := by decide +kernel
theorem dX8_copy_18 : decode cX8_copy 18 = .ok (.iload 4, 2) := by decide +kernel
theorem dX8_copy_20 : decode cX8_copy 20 = .ok (.iadd, 1) := by decide +kernel
theorem dX8_copy_21 : decode cX8_copy 21 = .ok (.iaload, 1) := by decide +kernel
theorem dX8_copy_22 : decode cX8_copy 22 = .ok (.iastore, 1) := by decide +kernel
theorem dX8_copy_23 : decode cX8_copy 23 = .ok (.iinc 4 1, 3) := by decide +kernel
theorem dX8_copy_26 : decode cX8_copy 26 = .ok (.goto (-23), 3) := by decide +kernel
theorem dX8_copy_29 : decode cX8_copy 29 = .ok (.return_, 1) := by decide +kernel
theorem dX8_record_0 : decode cX8_record 0 = .ok (.aload_n 0, 1) := by decide +kernel
theorem dX8_record_1 : decode cX8_record 1 = .ok (.getfield 50, 3) := by decide +kernel
theorem dX8_record_4 : decode cX8_record 4 = .ok (.iconst 5, 1) := by decide +kernel
theorem dX8_record_5 : decode cX8_record 5 = .ok (.if_icmp .ne 44, 3) := by decide +kernel
theorem dX8_record_8 : decode cX8_record 8 = .ok (.iconst 0, 1) := by decide +kernel
theorem dX8_record_9 : decode cX8_record 9 = .ok (.istore_n 1, 1) := by decide +kernel
theorem dX8_record_10 : decode cX8_record 10 = .ok (.iload_n 1, 1) := by decide +kernel
theorem dX8_record_11 : decode cX8_record 11 = .ok (.sipush 1568, 3) := by decide +kernel
theorem dX8_record_14 : decode cX8_record 14 = .ok (.if_icmp .ge 25, 3) := by decide +kernel
theorem dX8_record_17 : decode cX8_record 17 = .ok (.aload_n 0, 1) := by decide +kernel
theorem dX8_record_18 : decode cX8_record 18 = .ok (.getfield 13, 3) := by decide +kernel
theorem dX8_record_21 : decode cX8_record 21 = .ok (.iload_n 1, 1) := by decide +kernel
theorem dX8_record_22 : decode cX8_record 22 = .ok (.aload_n 0, 1) := by decide +kernel
theorem dX8_record_23 : decode cX8_record 23 = .ok (.getfield 13, 3) := by decide +kernel
theorem dX8_record_26 : decode cX8_record 26 = .ok (.sipush 392, 3) := by decide +kernel
theorem dX8_record_29 : decode cX8_record 29 = .ok (.iload_n 1, 1) := by decide +kernel
theorem dX8_record_30 : decode cX8_record 30 = .ok (.iadd, 1) := by decide +kernel
theorem dX8_record_31 : decode cX8_record 31 = .ok (.iaload, 1) := by decide +kernel
theorem dX8_record_32 : decode cX8_record 32 = .ok (.iastore, 1) := by decide +kernel
theorem dX8_record_33 : decode cX8_record 33 = .ok (.iinc 1 1, 3) := by decide +kernel
theorem dX8_record_36 : decode cX8_record 36 = .ok (.goto (-26), 3) := by decide +kernel
theorem dX8_record_39 : decode cX8_record 39 = .ok (.aload_n 0, 1) := by decide +kernel
theorem dX8_record_40 : decode cX8_record 40 = .ok (.dup, 1) := by decide +kernel
theorem dX8_record_41 : decode cX8_record 41 = .ok (.getfield 50, 3) := by decide +kernel
theorem dX8_record_44 : decode cX8_record 44 = .ok (.iconst 1, 1) := by decide +kernel
theorem dX8_record_45 : decode cX8_record 45 = .ok (.isub, 1) := by decide +kernel
theorem dX8_record_46 : decode cX8_record 46 = .ok (.putfield 50, 3) := by decide +kernel
theorem dX8_record_49 : decode cX8_record 49 = .ok (.aload_n 0, 1) := by decide +kernel
theorem dX8_record_50 : decode cX8_record 50 = .ok (.getfield 7, 3) := by decide +kernel
theorem dX8_record_53 : decode cX8_record 53 = .ok (.iconst 0, 1) := by decide +kernel
theorem dX8_record_54 : decode cX8_record 54 = .ok (.aload_n 0, 1) := by decide +kernel
theorem dX8_record_55 : decode cX8_record 55 = .ok (.getfield 13, 3) := by decide +kernel
theorem dX8_record_58 : decode cX8_record 58 = .ok (.sipush 392, 3) := by decide +kernel
theorem dX8_record_61 : decode cX8_record 61 = .ok (.aload_n 0, 1) := by decide +kernel
theorem dX8_record_62 : decode cX8_record 62 = .ok (.getfield 50, 3) := by decide +kernel
theorem dX8_record_65 : decode cX8_record 65 = .ok (.imul, 1) := by decide +kernel
theorem dX8_record_66 : decode cX8_record 66 = .ok (.invokestatic 54, 3) := by decide +kernel
theorem dX8_record_69 : decode cX8_record 69 = .ok (.aload_n 0, 1) := by decide +kernel
theorem dX8_record_70 : decode cX8_record 70 = .ok (.dup, 1) := by decide +kernel
theorem dX8_record_71 : decode cX8_record 71 = .ok (.getfield 50, 3) := by decide +kernel
theorem dX8_record_74 : decode cX8_record 74 = .ok (.iconst 1, 1) := by decide +kernel
theorem dX8_record_75 : decode cX8_record 75 = .ok (.iadd, 1) := by decide +kernel
theorem dX8_record_76 : decode cX8_record 76 = .ok (.putfield 50, 3) := by decide +kernel
theorem dX8_record_79 : decode cX8_record 79 = .ok (.return_, 1) := by decide +kernel
theorem dX8_snakeAt_0 : decode cX8_snakeAt 0 = .ok (.bipush (-5), 2) := by decide +kernel
theorem dX8_snakeAt_2 : decode cX8_snakeAt 2 = .ok (.istore_n 2, 1) := by decide +kernel
theorem dX8_snakeAt_3 : decode cX8_snakeAt 3 = .ok (.iconst 0, 1) := by decide +kernel
theorem dX8_snakeAt_4 : decode cX8_snakeAt 4 = .ok (.istore_n 3, 1) := by decide +kernel
theorem dX8_snakeAt_5 : decode cX8_snakeAt 5 = .ok (.iload_n 3, 1) := by decide +kernel
theorem dX8_snakeAt_6 : decode cX8_snakeAt 6 = .ok (.bipush 10, 2) := by decide +kernel
theorem dX8_snakeAt_8 : decode cX8_snakeAt 8 = .ok (.if_icmp .ge 29, 3) := by decide +kernel
theorem dX8_snakeAt_11 : decode cX8_snakeAt 11 = .ok (.aload_n 0, 1) := by decide +kernel
theorem dX8_snakeAt_12 : decode cX8_snakeAt 12 = .ok (.iload_n 3, 1) := by decide +kernel
theorem dX8_snakeAt_13 : decode cX8_snakeAt 13 = .ok (.iconst 0, 1) := by decide +kernel
theorem dX8_snakeAt_14 : decode cX8_snakeAt 14 = .ok (.invokevirtual 47, 3) := by decide +kernel
theorem dX8_snakeAt_17 : decode cX8_snakeAt 17 = .ok (.iload_n 1, 1) := by decide +kernel
theorem dX8_snakeAt_18 : decode cX8_snakeAt 18 = .ok (.if_icmp .ne 11, 3) := by decide +kernel
theorem dX8_snakeAt_21 : decode cX8_snakeAt 21 = .ok (.iload_n 1, 1) := by decide +kernel
theorem dX8_snakeAt_22 : decode cX8_snakeAt 22 = .ok (.ifCond .le 7, 3) := by decide +kernel
theorem dX8_snakeAt_25 : decode cX8_snakeAt 25 = .ok (.iload_n 3, 1) := by decide +kernel
theorem dX8_snakeAt_26 : decode cX8_snakeAt 26 = .ok (.goto 4, 3) := by decide +kernel
theorem dX8_snakeAt_29 : decode cX8_snakeAt 29 = .ok (.iload_n 2, 1) := by decide +kernel
theorem dX8_snakeAt_30 : decode cX8_snakeAt 30 = .ok (.istore_n 2, 1) := by decide +kernel
theorem dX8_snakeAt_31 : decode cX8_snakeAt 31 = .ok (.iinc 3 1, 3) := by decide +kernel
theorem dX8_snakeAt_34 : decode cX8_snakeAt 34 = .ok (.goto (-29), 3) := by decide +kernel
theorem dX8_snakeAt_37 : decode cX8_snakeAt 37 = .ok (.iload_n 2, 1) := by decide +kernel
theorem dX8_snakeAt_38 : decode cX8_snakeAt 38 = .ok (.ireturn, 1) := by decide +kernel
theorem dX8_snakes_0 : decode cX8_snakes 0 = .ok (.iconst 0, 1) := by decide +kernel
theorem dX8_snakes_1 : decode cX8_snakes 1 = .ok (.istore_n 1, 1) := by decide +kernel
theorem dX8_snakes_2 : decode cX8_snakes 2 = .ok (.iconst 0, 1) := by decide +kernel
theorem dX8_snakes_3 : decode cX8_snakes 3 = .ok (.istore_n 2, 1) := by decide +kernel
theorem dX8_snakes_4 : decode cX8_snakes 4 = .ok (.iload_n 2, 1) := by decide +kernel
theorem dX8_snakes_5 : decode cX8_snakes 5 = .ok (.bipush 10, 2) := by decide +kernel
theorem dX8_snakes_7 : decode cX8_snakes 7 = .ok (.if_icmp .ge 26, 3) := by decide +kernel
theorem dX8_snakes_10 : decode cX8_snakes 10 = .ok (.iload_n 1, 1) := by decide +kernel
theorem dX8_snakes_11 : decode cX8_snakes 11 = .ok (.aload_n 0, 1) := by decide +kernel
theorem dX8_snakes_12 : decode cX8_snakes 12 = .ok (.iload_n 2, 1) := by decide +kernel
theorem dX8_snakes_13 : decode cX8_snakes 13 = .ok (.iconst 0, 1) := by decide +kernel
theorem dX8_snakes_14 : decode cX8_snakes 14 = .ok (.invokevirtual 47, 3) := by decide +kernel
theorem dX8_snakes_17 : decode cX8_snakes 17 = .ok (.ifCond .le 7, 3) := by decide +kernel
theorem dX8_snakes_20 : decode cX8_snakes 20 = .ok (.iconst 1, 1) := by decide +kernel
theorem dX8_snakes_21 : decode cX8_snakes 21 = .ok (.goto 4, 3) := by decide +kernel
theorem dX8_snakes_24 : decode cX8_snakes 24 = .ok (.iconst 0, 1) := by decide +kernel
theorem dX8_snakes_25 : decode cX8_snakes 25 = .ok (.iadd, 1) := by decide +kernel
theorem dX8_snakes_26 : decode cX8_snakes 26 = .ok (.istore_n 1, 1) := by decide +kernel
theorem dX8_snakes_27 : decode cX8_snakes 27 = .ok (.iinc 2 1, 3) := by decide +kernel
theorem dX8_snakes_30 : decode cX8_snakes 30 = .ok (.goto (-26), 3) := by decide +kernel
theorem dX8_snakes_33 : decode cX8_snakes 33 = .ok (.iload_n 1, 1) := by decide +kernel
theorem dX8_snakes_34 : decode cX8_snakes 34 = .ok (.ireturn, 1) := by decide +kernel
theorem dX8_goOn_0 : decode cX8_goOn 0 = .ok (.iload_n 0, 1) := by decide +kernel
theorem dX8_goOn_1 : decode cX8_goOn 1 = .ok (.iload_n 1, 1) := by decide +kernel
theorem dX8_goOn_2 : decode cX8_goOn 2 = .ok (.iadd, 1) := by decide +kernel
theorem dX8_goOn_3 : decode cX8_goOn 3 = .ok (.bipush 60, 2) := by decide +kernel
theorem dX8_goOn_5 : decode cX8_goOn 5 = .ok (.if_icmp .le 12, 3) := by decide +kernel
theorem dX8_goOn_8 : decode cX8_goOn 8 = .ok (.bipush 120, 2) := by decide +kernel
theorem dX8_goOn_10 : decode cX8_goOn 10 = .ok (.iload_n 0, 1) := by decide +kernel
theorem dX8_goOn_11 : decode cX8_goOn 11 = .ok (.isub, 1) := by decide +kernel
theorem dX8_goOn_12 : decode cX8_goOn 12 = .ok (.iload_n 1, 1) := by decide +kernel
theorem dX8_goOn_13 : decode cX8_goOn 13 = .ok (.isub, 1) := by decide +kernel
theorem dX8_goOn_14 : decode cX8_goOn 14 = .ok (.goto 6, 3) := by decide +kernel
theorem dX8_goOn_17 : decode cX8_goOn 17 = .ok (.iload_n 0, 1) := by decide +kernel
theorem dX8_goOn_18 : decode cX8_goOn 18 = .ok (.iload_n 1, 1) := by decide +kernel
theorem dX8_goOn_19 : decode cX8_goOn 19 = .ok (.iadd, 1) := by decide +kernel
theorem dX8_goOn_20 : decode cX8_goOn 20 = .ok (.ireturn, 1) := by decide +kernel
theorem dX8_hurts_0 : decode cX8_hurts 0 = .ok (.iconst 0, 1) := by decide +kernel
theorem dX8_hurts_1 : decode cX8_hurts 1 = .ok (.istore_n 2, 1) := by decide +kernel
theorem dX8_hurts_2 : decode cX8_hurts 2 = .ok (.iconst 0, 1) := by decide +kernel
theorem dX8_hurts_3 : decode cX8_hurts 3 = .ok (.istore_n 3, 1) := by decide +kernel
theorem dX8_hurts_4 : decode cX8_hurts 4 = .ok (.iload_n 3, 1) := by decide +kernel
theorem dX8_hurts_5 : decode cX8_hurts 5 = .ok (.aload_n 0, 1) := by decide +kernel
theorem dX8_hurts_6 : decode cX8_hurts 6 = .ok (.iload_n 1, 1) := by decide +kernel
theorem dX8_hurts_7 : decode cX8_hurts 7 = .ok (.iconst 5, 1) := by decide +kernel
theorem dX8_hurts_8 : decode cX8_hurts 8 = .ok (.invokevirtual 43, 3) := by decide +kernel
theorem dX8_hurts_11 : decode cX8_hurts 11 = .ok (.if_icmp .ge 24, 3) := by decide +kernel
theorem dX8_hurts_14 : decode cX8_hurts 14 = .ok (.iload_n 2, 1) := by decide +kernel
theorem dX8_hurts_15 : decode cX8_hurts 15 = .ok (.aload_n 0, 1) := by decide +kernel
theorem dX8_hurts_16 : decode cX8_hurts 16 = .ok (.getfield 7, 3) := by decide +kernel
theorem dX8_hurts_19 : decode cX8_hurts 19 = .ok (.iload_n 1, 1) := by decide +kernel
theorem dX8_hurts_20 : decode cX8_hurts 20 = .ok (.iload_n 3, 1) := by decide +kernel
theorem dX8_hurts_21 : decode cX8_hurts 21 = .ok (.invokestatic 58, 3) := by decide +kernel
theorem dX8_hurts_24 : decode cX8_hurts 24 = .ok (.iconst 0, 1) := by decide +kernel
theorem dX8_hurts_25 : decode cX8_hurts 25 = .ok (.iadd, 1) := by decide +kernel
theorem dX8_hurts_26 : decode cX8_hurts 26 = .ok (.iaload, 1) := by decide +kernel
theorem dX8_hurts_27 : decode cX8_hurts 27 = .ok (.iadd, 1) := by decide +kernel
theorem dX8_hurts_28 : decode cX8_hurts 28 = .ok (.istore_n 2, 1) := by decide +kernel
theorem dX8_hurts_29 : decode cX8_hurts 29 = .ok (.iinc 3 1, 3) := by decide +kernel
theorem dX8_hurts_32 : decode cX8_hurts 32 = .ok (.goto (-28), 3) := by decide +kernel
theorem dX8_hurts_35 : decode cX8_hurts 35 = .ok (.iload_n 2, 1) := by decide +kernel
theorem dX8_hurts_36 : decode cX8_hurts 36 = .ok (.ireturn, 1) := by decide +kernel
theorem dX8_beginsAt_0 : decode cX8_beginsAt 0 = .ok (.aload_n 0, 1) := by decide +kernel
theorem dX8_beginsAt_1 : decode cX8_beginsAt 1 = .ok (.iload_n 1, 1) := by decide +kernel
theorem dX8_beginsAt_2 : decode cX8_beginsAt 2 = .ok (.iconst 0, 1) := by decide +kernel
theorem dX8_beginsAt_3 : decode cX8_beginsAt 3 = .ok (.invokevirtual 43, 3) := by decide +kernel
theorem dX8_beginsAt_6 : decode cX8_beginsAt 6 = .ok (.aload_n 0, 1) := by decide +kernel
theorem dX8_beginsAt_7 : decode cX8_beginsAt 7 = .ok (.iload_n 1, 1) := by decide +kernel
theorem dX8_beginsAt_8 : decode cX8_beginsAt 8 = .ok (.invokevirtual 61, 3) := by decide +kernel
theorem dX8_beginsAt_11 : decode cX8_beginsAt 11 = .ok (.isub, 1) := by decide +kernel
theorem dX8_beginsAt_12 : decode cX8_beginsAt 12 = .ok (.istore_n 2, 1) := by decide +kernel
theorem dX8_beginsAt_13 : decode cX8_beginsAt 13 = .ok (.iload_n 2, 1) := by decide +kernel
theorem dX8_beginsAt_14 : decode cX8_beginsAt 14 = .ok (.ifCond .ge 7, 3) := by decide +kernel
theorem dX8_beginsAt_17 : decode cX8_beginsAt 17 = .ok (.iconst 0, 1) := by decide +kernel
theorem dX8_beginsAt_18 : decode cX8_beginsAt 18 = .ok (.goto 4, 3) := by decide +kernel
theorem dX8_beginsAt_21 : decode cX8_beginsAt 21 = .ok (.iload_n 2, 1) := by decide +kernel
theorem dX8_beginsAt_22 : decode cX8_beginsAt 22 = .ok (.ireturn, 1) := by decide +kernel
theorem dX8_piecesAt_0 : decode cX8_piecesAt 0 = .ok (.iconst 0, 1) := by decide +kernel
theorem dX8_piecesAt_1 : decode cX8_piecesAt 1 = .ok (.istore_n 2, 1) := by decide +kernel
theorem dX8_piecesAt_2 : decode cX8_piecesAt 2 = .ok (.iconst 0, 1) := by decide +kernel
theorem dX8_piecesAt_3 : decode cX8_piecesAt 3 = .ok (.istore_n 3, 1) := by decide +kernel
theorem dX8_piecesAt_4 : decode cX8_piecesAt 4 = .ok (.iload_n 3, 1) := by decide +kernel
theorem dX8_piecesAt_5 : decode cX8_piecesAt 5 = .ok (.iconst 4, 1) := by decide +kernel
theorem dX8_piecesAt_6 : decode cX8_piecesAt 6 = .ok (.if_icmp .ge 29, 3) := by decide +kernel
theorem dX8_piecesAt_9 : decode cX8_piecesAt 9 = .ok (.iload_n 2, 1) := by decide +kernel
theorem dX8_piecesAt_10 : decode cX8_piecesAt 10 = .ok (.aload_n 0, 1) := by decide +kernel
theorem dX8_piecesAt_11 : decode cX8_piecesAt 11 = .ok (.iload_n 3, 1) := by decide +kernel
theorem dX8_piecesAt_12 : decode cX8_piecesAt 12 = .ok (.iconst 0, 1) := by decide +kernel
theorem dX8_piecesAt_13 : decode cX8_piecesAt 13 = .ok (.invokevirtual 43, 3) := by decide +kernel
theorem dX8_piecesAt_16 : decode cX8_piecesAt 16 = .ok (.iload_n 1, 1) := by decide +kernel
theorem dX8_piecesAt_17 : decode cX8_piecesAt 17 = .ok (.if_icmp .ne 9, 3) := by decide +kernel
theorem dX8_piecesAt_20 : decode cX8_piecesAt 20 = .ok (.iconst 1, 1) := by decide +kernel
theorem dX8_piecesAt_21 : decode cX8_piecesAt 21 = .ok (.iload_n 3, 1) := by decide +kernel
theorem dX8_piecesAt_22 : decode cX8_piecesAt 22 = .ok (.ishl, 1) := by decide +kernel
theorem dX8_piecesAt_23 : decode cX8_piecesAt 23 = .ok (.goto 4, 3) := by decide +kernel
theorem dX8_piecesAt_26 : decode cX8_piecesAt 26 = .ok (.iconst 0, 1) := by decide +kernel
theorem dX8_piecesAt_27 : decode cX8_piecesAt 27 = .ok (.ior, 1) := by decide +kernel
theorem dX8_piecesAt_28 : decode cX8_piecesAt 28 = .ok (.istore_n 2, 1) := by decide +kernel
theorem dX8_piecesAt_29 : decode cX8_piecesAt 29 = .ok (.iinc 3 1, 3) := by decide +kernel
theorem dX8_piecesAt_32 : decode cX8_piecesAt 32 = .ok (.goto (-28), 3) := by decide +kernel
theorem dX8_piecesAt_35 : decode cX8_piecesAt 35 = .ok (.iload_n 2, 1) := by decide +kernel
theorem dX8_piecesAt_36 : decode cX8_piecesAt 36 = .ok (.ireturn, 1) := by decide +kernel
theorem dX8_bites_0 : decode cX8_bites 0 = .ok (.aload_n 0, 1) := by decide +kernel
theorem dX8_bites_1 : decode cX8_bites 1 = .ok (.iload_n 2, 1) := by decide +kernel
theorem dX8_bites_2 : decode cX8_bites 2 = .ok (.invokevirtual 65, 3) := by decide +kernel
theorem dX8_bites_5 : decode cX8_bites 5 = .ok (.istore_n 3, 1) := by decide +kernel
theorem dX8_bites_6 : decode cX8_bites 6 = .ok (.iload_n 3, 1) := by decide +kernel
theorem dX8_bites_7 : decode cX8_bites 7 = .ok (.bipush (-5), 2) := by decide +kernel
theorem dX8_bites_9 : decode cX8_bites 9 = .ok (.if_icmp .eq 30, 3) := by decide +kernel
theorem dX8_bites_12 : decode cX8_bites 12 = .ok (.aload_n 0, 1) := by decide +kernel
theorem dX8_bites_13 : decode cX8_bites 13 = .ok (.iload_n 3, 1) := by decide +kernel
theorem dX8_bites_14 : decode cX8_bites 14 = .ok (.iconst 2, 1) := by decide +kernel
theorem dX8_bites_15 : decode cX8_bites 15 = .ok (.invokevirtual 47, 3) := by decide +kernel
theorem dX8_bites_18 : decode cX8_bites 18 = .ok (.ifCond .ne 21, 3) := by decide +kernel
theorem dX8_bites_21 : decode cX8_bites 21 = .ok (.aload_n 0, 1) := by decide +kernel
theorem dX8_bites_22 : decode cX8_bites 22 = .ok (.iload_n 2, 1) := by decide +kernel
theorem dX8_bites_23 : decode cX8_bites 23 = .ok (.invokevirtual 68, 3) := by decide +kernel
theorem dX8_bites_26 : decode cX8_bites 26 = .ok (.iconst 1, 1) := by decide +kernel
theorem dX8_bites_27 : decode cX8_bites 27 = .ok (.iload_n 1, 1) := by decide +kernel
theorem dX8_bites_28 : decode cX8_bites 28 = .ok (.ishl, 1) := by decide +kernel
theorem dX8_bites_29 : decode cX8_bites 29 = .ok (.iconst (-1), 1) := by decide +kernel
theorem dX8_bites_30 : decode cX8_bites 30 = .ok (.ixor, 1) := by decide +kernel
theorem dX8_bites_31 : decode cX8_bites 31 = .ok (.iand, 1) := by decide +kernel
theorem dX8_bites_32 : decode cX8_bites 32 = .ok (.ifCond .ne 7, 3) := by decide +kernel
theorem dX8_bites_35 : decode cX8_bites 35 = .ok (.iconst 1, 1) := by decide +kernel
theorem dX8_bites_36 : decode cX8_bites 36 = .ok (.goto 4, 3) := by decide +kernel
theorem dX8_bites_39 : decode cX8_bites 39 = .ok (.iconst 0, 1) := by decide +kernel
theorem dX8_bites_40 : decode cX8_bites 40 = .ok (.ireturn, 1) := by decide +kernel
theorem dX8_getBite_0 : decode cX8_getBite 0 = .ok (.iload_n 1, 1) := by decide +kernel
theorem dX8_getBite_1 : decode cX8_getBite 1 = .ok (.aload_n 0, 1) := by decide +kernel
theorem dX8_getBite_2 : decode cX8_getBite 2 = .ok (.iload_n 1, 1) := by decide +kernel
theorem dX8_getBite_3 : decode cX8_getBite 3 = .ok (.iconst 5, 1) := by decide +kernel
theorem dX8_getBite_4 : decode cX8_getBite 4 = .ok (.invokevirtual 43, 3) := by decide +kernel
theorem dX8_getBite_7 : decode cX8_getBite 7 = .ok (.invokestatic 58, 3) := by decide +kernel
theorem dX8_getBite_10 : decode cX8_getBite 10 = .ok (.istore_n 3, 1) := by decide +kernel
theorem dX8_getBite_11 : decode cX8_getBite 11 = .ok (.aload_n 0, 1) := by decide +kernel
theorem dX8_getBite_12 : decode cX8_getBite 12 = .ok (.getfield 7, 3) := by decide +kernel
theorem dX8_getBite_15 : decode cX8_getBite 15 = .ok (.iload_n 3, 1) := by decide +kernel
theorem dX8_getBite_16 : decode cX8_getBite 16 = .ok (.iconst 0, 1) := by decide +kernel
theorem dX8_getBite_17 : decode cX8_getBite 17 = .ok (.iadd, 1) := by decide +kernel
theorem dX8_getBite_18 : decode cX8_getBite 18 = .ok (.iload_n 2, 1) := by decide +kernel
theorem dX8_getBite_19 : decode cX8_getBite 19 = .ok (.iastore, 1) := by decide +kernel
theorem dX8_getBite_20 : decode cX8_getBite 20 = .ok (.aload_n 0, 1) := by decide +kernel
theorem dX8_getBite_21 : decode cX8_getBite 21 = .ok (.getfield 7, 3) := by decide +kernel
theorem dX8_getBite_24 : decode cX8_getBite 24 = .ok (.iload_n 3, 1) := by decide +kernel
theorem dX8_getBite_25 : decode cX8_getBite 25 = .ok (.iconst 1, 1) := by decide +kernel
theorem dX8_getBite_26 : decode cX8_getBite 26 = .ok (.iadd, 1) := by decide +kernel
theorem dX8_getBite_27 : decode cX8_getBite 27 = .ok (.iconst 0, 1) := by decide +kernel
theorem dX8_getBite_28 : decode cX8_getBite 28 = .ok (.iastore, 1) := by decide +kernel
theorem dX8_getBite_29 : decode cX8_getBite 29 = .ok (.aload_n 0, 1) := by decide +kernel
theorem dX8_getBite_30 : decode cX8_getBite 30 = .ok (.getfield 7, 3) := by decide +kernel
theorem dX8_getBite_33 : decode cX8_getBite 33 = .ok (.iload_n 3, 1) := by decide +kernel
theorem dX8_getBite_34 : decode cX8_getBite 34 = .ok (.iconst 2, 1) := by decide +kernel
theorem dX8_getBite_35 : decode cX8_getBite 35 = .ok (.iadd, 1) := by decide +kernel
theorem dX8_getBite_36 : decode cX8_getBite 36 = .ok (.iload_n 1, 1) := by decide +kernel
theorem dX8_getBite_37 : decode cX8_getBite 37 = .ok (.iastore, 1) := by decide +kernel
theorem dX8_getBite_38 : decode cX8_getBite 38 = .ok (.aload_n 0, 1) := by decide +kernel
theorem dX8_getBite_39 : decode cX8_getBite 39 = .ok (.getfield 7, 3) := by decide +kernel
theorem dX8_getBite_42 : decode cX8_getBite 42 = .ok (.iload_n 3, 1) := by decide +kernel
theorem dX8_getBite_43 : decode cX8_getBite 43 = .ok (.iconst 3, 1) := by decide +kernel
theorem dX8_getBite_44 : decode cX8_getBite 44 = .ok (.iadd, 1) := by decide +kernel
theorem dX8_getBite_45 : decode cX8_getBite 45 = .ok (.iconst 1, 1) := by decide +kernel
theorem dX8_getBite_46 : decode cX8_getBite 46 = .ok (.iload_n 1, 1) := by decide +kernel
theorem dX8_getBite_47 : decode cX8_getBite 47 = .ok (.ishl, 1) := by decide +kernel
theorem dX8_getBite_48 : decode cX8_getBite 48 = .ok (.iastore, 1) := by decide +kernel
theorem dX8_getBite_49 : decode cX8_getBite 49 = .ok (.aload_n 0, 1) := by decide +kernel
theorem dX8_getBite_50 : decode cX8_getBite 50 = .ok (.iload_n 1, 1) := by decide +kernel
theorem dX8_getBite_51 : decode cX8_getBite 51 = .ok (.iconst 5, 1) := by decide +kernel
theorem dX8_getBite_52 : decode cX8_getBite 52 = .ok (.iconst 1, 1) := by decide +kernel
theorem dX8_getBite_53 : decode cX8_getBite 53 = .ok (.invokevirtual 71, 3) := by decide +kernel
theorem dX8_getBite_56 : decode cX8_getBite 56 = .ok (.aload_n 0, 1) := by decide +kernel
theorem dX8_getBite_57 : decode cX8_getBite 57 = .ok (.iload_n 1, 1) := by decide +kernel
theorem dX8_getBite_58 : decode cX8_getBite 58 = .ok (.iconst 3, 1) := by decide +kernel
theorem dX8_getBite_59 : decode cX8_getBite 59 = .ok (.iconst 1, 1) := by decide +kernel
theorem dX8_getBite_60 : decode cX8_getBite 60 = .ok (.invokevirtual 71, 3) := by decide +kernel
theorem dX8_getBite_63 : decode cX8_getBite 63 = .ok (.aload_n 0, 1) := by decide +kernel
theorem dX8_getBite_64 : decode cX8_getBite 64 = .ok (.getfield 7, 3) := by decide +kernel
theorem dX8_getBite_67 : decode cX8_getBite 67 = .ok (.iconst 2, 1) := by decide +kernel
theorem dX8_getBite_68 : decode cX8_getBite 68 = .ok (.dup2, 1) := by decide +kernel
theorem dX8_getBite_69 : decode cX8_getBite 69 = .ok (.iaload, 1) := by decide +kernel
theorem dX8_getBite_70 : decode cX8_getBite 70 = .ok (.iconst 1, 1) := by decide +kernel
theorem dX8_getBite_71 : decode cX8_getBite 71 = .ok (.iadd, 1) := by decide +kernel
theorem dX8_getBite_72 : decode cX8_getBite 72 = .ok (.iastore, 1) := by decide +kernel
theorem dX8_getBite_73 : decode cX8_getBite 73 = .ok (.return_, 1) := by decide +kernel
theorem dX8_beBitten_0 : decode cX8_beBitten 0 = .ok (.sipush 352, 3) := by decide +kernel
theorem dX8_beBitten_3 : decode cX8_beBitten 3 = .ok (.iconst 4, 1) := by decide +kernel
theorem dX8_beBitten_4 : decode cX8_beBitten 4 = .ok (.aload_n 0, 1) := by decide +kernel
theorem dX8_beBitten_5 : decode cX8_beBitten 5 = .ok (.iload_n 2, 1) := by decide +kernel
theorem dX8_beBitten_6 : decode cX8_beBitten 6 = .ok (.invokevirtual 65, 3) := by decide +kernel
theorem dX8_beBitten_9 : decode cX8_beBitten 9 = .ok (.imul, 1) := by decide +kernel
theorem dX8_beBitten_10 : decode cX8_beBitten 10 = .ok (.iadd, 1) := by decide +kernel
theorem dX8_beBitten_11 : decode cX8_beBitten 11 = .ok (.istore_n 3, 1) := by decide +kernel
theorem dX8_beBitten_12 : decode cX8_beBitten 12 = .ok (.aload_n 0, 1) := by decide +kernel
theorem dX8_beBitten_13 : decode cX8_beBitten 13 = .ok (.iload_n 1, 1) := by decide +kernel
theorem dX8_beBitten_14 : decode cX8_beBitten 14 = .ok (.aload_n 0, 1) := by decide +kernel
theorem dX8_beBitten_15 : decode cX8_beBitten 15 = .ok (.getfield 7, 3) := by decide +kernel
theorem dX8_beBitten_18 : decode cX8_beBitten 18 = .ok (.iload_n 3, 1) := by decide +kernel
theorem dX8_beBitten_19 : decode cX8_beBitten 19 = .ok (.iconst 0, 1) := by decide +kernel
theorem dX8_beBitten_20 : decode cX8_beBitten 20 = .ok (.iadd, 1) := by decide +kernel
theorem dX8_beBitten_21 : decode cX8_beBitten 21 = .ok (.iaload, 1) := by decide +kernel
theorem dX8_beBitten_22 : decode cX8_beBitten 22 = .ok (.aload_n 0, 1) := by decide +kernel
theorem dX8_beBitten_23 : decode cX8_beBitten 23 = .ok (.getfield 7, 3) := by decide +kernel
theorem dX8_beBitten_26 : decode cX8_beBitten 26 = .ok (.iload_n 3, 1) := by decide +kernel
theorem dX8_beBitten_27 : decode cX8_beBitten 27 = .ok (.iconst 1, 1) := by decide +kernel
theorem dX8_beBitten_28 : decode cX8_beBitten 28 = .ok (.iadd, 1) := by decide +kernel
theorem dX8_beBitten_29 : decode cX8_beBitten 29 = .ok (.iaload, 1) := by decide +kernel
theorem dX8_beBitten_30 : decode cX8_beBitten 30 = .ok (.isub, 1) := by decide +kernel
theorem dX8_beBitten_31 : decode cX8_beBitten 31 = .ok (.invokevirtual 75, 3) := by decide +kernel
theorem dX8_beBitten_34 : decode cX8_beBitten 34 = .ok (.aload_n 0, 1) := by decide +kernel
theorem dX8_beBitten_35 : decode cX8_beBitten 35 = .ok (.getfield 7, 3) := by decide +kernel
theorem dX8_beBitten_38 : decode cX8_beBitten 38 = .ok (.iload_n 3, 1) := by decide +kernel
theorem dX8_beBitten_39 : decode cX8_beBitten 39 = .ok (.iconst 2, 1) := by decide +kernel
theorem dX8_beBitten_40 : decode cX8_beBitten 40 = .ok (.iadd, 1) := by decide +kernel
theorem dX8_beBitten_41 : decode cX8_beBitten 41 = .ok (.aload_n 0, 1) := by decide +kernel
theorem dX8_beBitten_42 : decode cX8_beBitten 42 = .ok (.getfield 7, 3) := by decide +kernel
theorem dX8_beBitten_45 : decode cX8_beBitten 45 = .ok (.iconst 5, 1) := by decide +kernel
theorem dX8_beBitten_46 : decode cX8_beBitten 46 = .ok (.iaload, 1) := by decide +kernel
theorem dX8_beBitten_47 : decode cX8_beBitten 47 = .ok (.iconst 1, 1) := by decide +kernel
theorem dX8_beBitten_48 : decode cX8_beBitten 48 = .ok (.iadd, 1) := by decide +kernel
theorem dX8_beBitten_49 : decode cX8_beBitten 49 = .ok (.iastore, 1) := by decide +kernel
theorem dX8_beBitten_50 : decode cX8_beBitten 50 = .ok (.aload_n 0, 1) := by decide +kernel
theorem dX8_beBitten_51 : decode cX8_beBitten 51 = .ok (.getfield 7, 3) := by decide +kernel
theorem dX8_beBitten_54 : decode cX8_beBitten 54 = .ok (.iload_n 3, 1) := by decide +kernel
theorem dX8_beBitten_55 : decode cX8_beBitten 55 = .ok (.iconst 3, 1) := by decide +kernel
theorem dX8_beBitten_56 : decode cX8_beBitten 56 = .ok (.iadd, 1) := by decide +kernel
theorem dX8_beBitten_57 : decode cX8_beBitten 57 = .ok (.dup2, 1) := by decide +kernel
theorem dX8_beBitten_58 : decode cX8_beBitten 58 = .ok (.iaload, 1) := by decide +kernel
theorem dX8_beBitten_59 : decode cX8_beBitten 59 = .ok (.iconst 1, 1) := by decide +kernel
theorem dX8_beBitten_60 : decode cX8_beBitten 60 = .ok (.iadd, 1) := by decide +kernel
theorem dX8_beBitten_61 : decode cX8_beBitten 61 = .ok (.iastore, 1) := by decide +kernel
theorem dX8_beBitten_62 : decode cX8_beBitten 62 = .ok (.return_, 1) := by decide +kernel
theorem dX8_doTurn_0 : decode cX8_doTurn 0 = .ok (.aload_n 0, 1) := by decide +kernel
theorem dX8_doTurn_1 : decode cX8_doTurn 1 = .ok (.getfield 7, 3) := by decide +kernel
theorem dX8_doTurn_4 : decode cX8_doTurn 4 = .ok (.iconst 1, 1) := by decide +kernel
theorem dX8_doTurn_5 : decode cX8_doTurn 5 = .ok (.iaload, 1) := by decide +kernel
theorem dX8_doTurn_6 : decode cX8_doTurn 6 = .ok (.istore_n 2, 1) := by decide +kernel
theorem dX8_doTurn_7 : decode cX8_doTurn 7 = .ok (.aload_n 0, 1) := by decide +kernel
theorem dX8_doTurn_8 : decode cX8_doTurn 8 = .ok (.iload_n 2, 1) := by decide +kernel
theorem dX8_doTurn_9 : decode cX8_doTurn 9 = .ok (.invokevirtual 79, 3) := by decide +kernel
theorem dX8_doTurn_12 : decode cX8_doTurn 12 = .ok (.istore_n 3, 1) := by decide +kernel
theorem dX8_doTurn_13 : decode cX8_doTurn 13 = .ok (.aload_n 0, 1) := by decide +kernel
theorem dX8_doTurn_14 : decode cX8_doTurn 14 = .ok (.iload_n 2, 1) := by decide +kernel
theorem dX8_doTurn_15 : decode cX8_doTurn 15 = .ok (.iconst 4, 1) := by decide +kernel
theorem dX8_doTurn_16 : decode cX8_doTurn 16 = .ok (.aload_n 0, 1) := by decide +kernel
theorem dX8_doTurn_17 : decode cX8_doTurn 17 = .ok (.iload_n 2, 1) := by decide +kernel
theorem dX8_doTurn_18 : decode cX8_doTurn 18 = .ok (.iconst 0, 1) := by decide +kernel
theorem dX8_doTurn_19 : decode cX8_doTurn 19 = .ok (.invokevirtual 43, 3) := by decide +kernel
theorem dX8_doTurn_22 : decode cX8_doTurn 22 = .ok (.iload_n 3, 1) := by decide +kernel
theorem dX8_doTurn_23 : decode cX8_doTurn 23 = .ok (.isub, 1) := by decide +kernel
theorem dX8_doTurn_24 : decode cX8_doTurn 24 = .ok (.invokevirtual 71, 3) := by decide +kernel
theorem dX8_doTurn_27 : decode cX8_doTurn 27 = .ok (.aload_n 0, 1) := by decide +kernel
theorem dX8_doTurn_28 : decode cX8_doTurn 28 = .ok (.iload_n 2, 1) := by decide +kernel
theorem dX8_doTurn_29 : decode cX8_doTurn 29 = .ok (.iconst 5, 1) := by decide +kernel
theorem dX8_doTurn_30 : decode cX8_doTurn 30 = .ok (.aload_n 0, 1) := by decide +kernel
theorem dX8_doTurn_31 : decode cX8_doTurn 31 = .ok (.iload_n 2, 1) := by decide +kernel
theorem dX8_doTurn_32 : decode cX8_doTurn 32 = .ok (.iconst 5, 1) := by decide +kernel
theorem dX8_doTurn_33 : decode cX8_doTurn 33 = .ok (.invokevirtual 43, 3) := by decide +kernel
theorem dX8_doTurn_36 : decode cX8_doTurn 36 = .ok (.ineg, 1) := by decide +kernel
theorem dX8_doTurn_37 : decode cX8_doTurn 37 = .ok (.invokevirtual 71, 3) := by decide +kernel
theorem dX8_doTurn_40 : decode cX8_doTurn 40 = .ok (.iload_n 3, 1) := by decide +kernel
theorem dX8_doTurn_41 : decode cX8_doTurn 41 = .ok (.iload_n 1, 1) := by decide +kernel
theorem dX8_doTurn_42 : decode cX8_doTurn 42 = .ok (.invokestatic 82, 3) := by decide +kernel
theorem dX8_doTurn_45 : decode cX8_doTurn 45 = .ok (.istore 4, 2) := by decide +kernel
theorem dX8_doTurn_47 : decode cX8_doTurn 47 = .ok (.aload_n 0, 1) := by decide +kernel
theorem dX8_doTurn_48 : decode cX8_doTurn 48 = .ok (.iload_n 2, 1) := by decide +kernel
theorem dX8_doTurn_49 : decode cX8_doTurn 49 = .ok (.iconst 0, 1) := by decide +kernel
theorem dX8_doTurn_50 : decode cX8_doTurn 50 = .ok (.iload 4, 2) := by decide +kernel
theorem dX8_doTurn_52 : decode cX8_doTurn 52 = .ok (.aload_n 0, 1) := by decide +kernel
theorem dX8_doTurn_53 : decode cX8_doTurn 53 = .ok (.iload_n 2, 1) := by decide +kernel
theorem dX8_doTurn_54 : decode cX8_doTurn 54 = .ok (.iconst 0, 1) := by decide +kernel
theorem dX8_doTurn_55 : decode cX8_doTurn 55 = .ok (.invokevirtual 43, 3) := by decide +kernel
theorem dX8_doTurn_58 : decode cX8_doTurn 58 = .ok (.isub, 1) := by decide +kernel
theorem dX8_doTurn_59 : decode cX8_doTurn 59 = .ok (.invokevirtual 71, 3) := by decide +kernel
theorem dX8_doTurn_62 : decode cX8_doTurn 62 = .ok (.aload_n 0, 1) := by decide +kernel
theorem dX8_doTurn_63 : decode cX8_doTurn 63 = .ok (.iload_n 2, 1) := by decide +kernel
theorem dX8_doTurn_64 : decode cX8_doTurn 64 = .ok (.iload 4, 2) := by decide +kernel
theorem dX8_doTurn_66 : decode cX8_doTurn 66 = .ok (.invokevirtual 85, 3) := by decide +kernel
theorem dX8_doTurn_69 : decode cX8_doTurn 69 = .ok (.ifCond .eq 10, 3) := by decide +kernel
theorem dX8_doTurn_72 : decode cX8_doTurn 72 = .ok (.aload_n 0, 1) := by decide +kernel
theorem dX8_doTurn_73 : decode cX8_doTurn 73 = .ok (.iload_n 2, 1) := by decide +kernel
theorem dX8_doTurn_74 : decode cX8_doTurn 74 = .ok (.iload 4, 2) := by decide +kernel
theorem dX8_doTurn_76 : decode cX8_doTurn 76 = .ok (.invokevirtual 89, 3) := by decide +kernel
theorem dX8_doTurn_79 : decode cX8_doTurn 79 = .ok (.iload 4, 2) := by decide +kernel
theorem dX8_doTurn_81 : decode cX8_doTurn 81 = .ok (.bipush 60, 2) := by decide +kernel
theorem dX8_doTurn_83 : decode cX8_doTurn 83 = .ok (.if_icmp .ne 25, 3) := by decide +kernel
theorem dX8_doTurn_86 : decode cX8_doTurn 86 = .ok (.aload_n 0, 1) := by decide +kernel
theorem dX8_doTurn_87 : decode cX8_doTurn 87 = .ok (.getfield 7, 3) := by decide +kernel
theorem dX8_doTurn_90 : decode cX8_doTurn 90 = .ok (.iconst 4, 1) := by decide +kernel
theorem dX8_doTurn_91 : decode cX8_doTurn 91 = .ok (.dup2, 1) := by decide +kernel
theorem dX8_doTurn_92 : decode cX8_doTurn 92 = .ok (.iaload, 1) := by decide +kernel
theorem dX8_doTurn_93 : decode cX8_doTurn 93 = .ok (.iconst 1, 1) := by decide +kernel
theorem dX8_doTurn_94 : decode cX8_doTurn 94 = .ok (.iadd, 1) := by decide +kernel
theorem dX8_doTurn_95 : decode cX8_doTurn 95 = .ok (.iastore, 1) := by decide +kernel
theorem dX8_doTurn_96 : decode cX8_doTurn 96 = .ok (.aload_n 0, 1) := by decide +kernel
theorem dX8_doTurn_97 : decode cX8_doTurn 97 = .ok (.iload_n 2, 1) := by decide +kernel
theorem dX8_doTurn_98 : decode cX8_doTurn 98 = .ok (.iconst 2, 1) := by decide +kernel
theorem dX8_doTurn_99 : decode cX8_doTurn 99 = .ok (.aload_n 0, 1) := by decide +kernel
theorem dX8_doTurn_100 : decode cX8_doTurn 100 = .ok (.getfield 7, 3) := by decide +kernel
theorem dX8_doTurn_103 : decode cX8_doTurn 103 = .ok (.iconst 4, 1) := by decide +kernel
theorem dX8_doTurn_104 : decode cX8_doTurn 104 = .ok (.iaload, 1) := by decide +kernel
theorem dX8_doTurn_105 : decode cX8_doTurn 105 = .ok (.invokevirtual 71, 3) := by decide +kernel
theorem dX8_doTurn_108 : decode cX8_doTurn 108 = .ok (.iconst 0, 1) := by decide +kernel
theorem dX8_doTurn_109 : decode cX8_doTurn 109 = .ok (.istore 5, 2) := by decide +kernel
theorem dX8_doTurn_111 : decode cX8_doTurn 111 = .ok (.iload 5, 2) := by decide +kernel
theorem dX8_doTurn_113 : decode cX8_doTurn 113 = .ok (.bipush 10, 2) := by decide +kernel
theorem dX8_doTurn_115 : decode cX8_doTurn 115 = .ok (.if_icmp .ge 42, 3) := by decide +kernel
theorem dX8_doTurn_118 : decode cX8_doTurn 118 = .ok (.aload_n 0, 1) := by decide +kernel
theorem dX8_doTurn_119 : decode cX8_doTurn 119 = .ok (.getfield 7, 3) := by decide +kernel
theorem dX8_doTurn_122 : decode cX8_doTurn 122 = .ok (.sipush 352, 3) := by decide +kernel
theorem dX8_doTurn_125 : decode cX8_doTurn 125 = .ok (.iconst 4, 1) := by decide +kernel
theorem dX8_doTurn_126 : decode cX8_doTurn 126 = .ok (.iload 5, 2) := by decide +kernel
theorem dX8_doTurn_128 : decode cX8_doTurn 128 = .ok (.imul, 1) := by decide +kernel
theorem dX8_doTurn_129 : decode cX8_doTurn 129 = .ok (.iadd, 1) := by decide +kernel
theorem dX8_doTurn_130 : decode cX8_doTurn 130 = .ok (.iconst 2, 1) := by decide +kernel
theorem dX8_doTurn_131 : decode cX8_doTurn 131 = .ok (.iadd, 1) := by decide +kernel
theorem dX8_doTurn_132 : decode cX8_doTurn 132 = .ok (.dup2, 1) := by decide +kernel
theorem dX8_doTurn_133 : decode cX8_doTurn 133 = .ok (.iaload, 1) := by decide +kernel
theorem dX8_doTurn_134 : decode cX8_doTurn 134 = .ok (.aload_n 0, 1) := by decide +kernel
theorem dX8_doTurn_135 : decode cX8_doTurn 135 = .ok (.iload 5, 2) := by decide +kernel
theorem dX8_doTurn_137 : decode cX8_doTurn 137 = .ok (.iconst 2, 1) := by decide +kernel
theorem dX8_doTurn_138 : decode cX8_doTurn 138 = .ok (.invokevirtual 47, 3) := by decide +kernel
theorem dX8_doTurn_141 : decode cX8_doTurn 141 = .ok (.ifCond .le 7, 3) := by decide +kernel
theorem dX8_doTurn_144 : decode cX8_doTurn 144 = .ok (.iconst 1, 1) := by decide +kernel
theorem dX8_doTurn_145 : decode cX8_doTurn 145 = .ok (.goto 4, 3) := by decide +kernel
theorem dX8_doTurn_148 : decode cX8_doTurn 148 = .ok (.iconst 0, 1) := by decide +kernel
theorem dX8_doTurn_149 : decode cX8_doTurn 149 = .ok (.isub, 1) := by decide +kernel
theorem dX8_doTurn_150 : decode cX8_doTurn 150 = .ok (.iastore, 1) := by decide +kernel
theorem dX8_doTurn_151 : decode cX8_doTurn 151 = .ok (.iinc 5 1, 3) := by decide +kernel
theorem dX8_doTurn_154 : decode cX8_doTurn 154 = .ok (.goto (-43), 3) := by decide +kernel
theorem dX8_doTurn_157 : decode cX8_doTurn 157 = .ok (.aload_n 0, 1) := by decide +kernel
theorem dX8_doTurn_158 : decode cX8_doTurn 158 = .ok (.getfield 7, 3) := by decide +kernel
theorem dX8_doTurn_161 : decode cX8_doTurn 161 = .ok (.iconst 0, 1) := by decide +kernel
theorem dX8_doTurn_162 : decode cX8_doTurn 162 = .ok (.dup2, 1) := by decide +kernel
theorem dX8_doTurn_163 : decode cX8_doTurn 163 = .ok (.iaload, 1) := by decide +kernel
theorem dX8_doTurn_164 : decode cX8_doTurn 164 = .ok (.iconst 1, 1) := by decide +kernel
theorem dX8_doTurn_165 : decode cX8_doTurn 165 = .ok (.iadd, 1) := by decide +kernel
theorem dX8_doTurn_166 : decode cX8_doTurn 166 = .ok (.iastore, 1) := by decide +kernel
theorem dX8_doTurn_167 : decode cX8_doTurn 167 = .ok (.iconst 0, 1) := by decide +kernel
theorem dX8_doTurn_168 : decode cX8_doTurn 168 = .ok (.istore 5, 2) := by decide +kernel
theorem dX8_doTurn_170 : decode cX8_doTurn 170 = .ok (.iload 5, 2) := by decide +kernel
theorem dX8_doTurn_172 : decode cX8_doTurn 172 = .ok (.iconst 4, 1) := by decide +kernel
theorem dX8_doTurn_173 : decode cX8_doTurn 173 = .ok (.if_icmp .ge 50, 3) := by decide +kernel
theorem dX8_doTurn_176 : decode cX8_doTurn 176 = .ok (.aload_n 0, 1) := by decide +kernel
theorem dX8_doTurn_177 : decode cX8_doTurn 177 = .ok (.invokevirtual 92, 3) := by decide +kernel
theorem dX8_doTurn_180 : decode cX8_doTurn 180 = .ok (.ifCond .ne 43, 3) := by decide +kernel
theorem dX8_doTurn_183 : decode cX8_doTurn 183 = .ok (.iload 5, 2) := by decide +kernel
theorem dX8_doTurn_185 : decode cX8_doTurn 185 = .ok (.ifCond .eq 16, 3) := by decide +kernel
theorem dX8_doTurn_188 : decode cX8_doTurn 188 = .ok (.aload_n 0, 1) := by decide +kernel
theorem dX8_doTurn_189 : decode cX8_doTurn 189 = .ok (.aload_n 0, 1) := by decide +kernel
theorem dX8_doTurn_190 : decode cX8_doTurn 190 = .ok (.getfield 7, 3) := by decide +kernel
theorem dX8_doTurn_193 : decode cX8_doTurn 193 = .ok (.iconst 1, 1) := by decide +kernel
theorem dX8_doTurn_194 : decode cX8_doTurn 194 = .ok (.iaload, 1) := by decide +kernel
theorem dX8_doTurn_195 : decode cX8_doTurn 195 = .ok (.invokevirtual 96, 3) := by decide +kernel
theorem dX8_doTurn_198 : decode cX8_doTurn 198 = .ok (.ifCond .ne 25, 3) := by decide +kernel
theorem dX8_doTurn_201 : decode cX8_doTurn 201 = .ok (.aload_n 0, 1) := by decide +kernel
theorem dX8_doTurn_202 : decode cX8_doTurn 202 = .ok (.getfield 7, 3) := by decide +kernel
theorem dX8_doTurn_205 : decode cX8_doTurn 205 = .ok (.iconst 1, 1) := by decide +kernel
theorem dX8_doTurn_206 : decode cX8_doTurn 206 = .ok (.aload_n 0, 1) := by decide +kernel
theorem dX8_doTurn_207 : decode cX8_doTurn 207 = .ok (.getfield 7, 3) := by decide +kernel
theorem dX8_doTurn_210 : decode cX8_doTurn 210 = .ok (.iconst 1, 1) := by decide +kernel
theorem dX8_doTurn_211 : decode cX8_doTurn 211 = .ok (.iaload, 1) := by decide +kernel
theorem dX8_doTurn_212 : decode cX8_doTurn 212 = .ok (.iconst 1, 1) := by decide +kernel
theorem dX8_doTurn_213 : decode cX8_doTurn 213 = .ok (.iadd, 1) := by decide +kernel
theorem dX8_doTurn_214 : decode cX8_doTurn 214 = .ok (.iconst 4, 1) := by decide +kernel
theorem dX8_doTurn_215 : decode cX8_doTurn 215 = .ok (.irem, 1) := by decide +kernel
theorem dX8_doTurn_216 : decode cX8_doTurn 216 = .ok (.iastore, 1) := by decide +kernel
theorem dX8_doTurn_217 : decode cX8_doTurn 217 = .ok (.iinc 5 1, 3) := by decide +kernel
theorem dX8_doTurn_220 : decode cX8_doTurn 220 = .ok (.goto (-50), 3) := by decide +kernel
theorem dX8_doTurn_223 : decode cX8_doTurn 223 = .ok (.iload 4, 2) := by decide +kernel
theorem dX8_doTurn_225 : decode cX8_doTurn 225 = .ok (.ireturn, 1) := by decide +kernel
theorem dX8_draw_0 : decode cX8_draw 0 = .ok (.sipush 25173, 3) := by decide +kernel
theorem dX8_draw_3 : decode cX8_draw 3 = .ok (.iload_n 0, 1) := by decide +kernel
theorem dX8_draw_4 : decode cX8_draw 4 = .ok (.imul, 1) := by decide +kernel
theorem dX8_draw_5 : decode cX8_draw 5 = .ok (.sipush 13849, 3) := by decide +kernel
theorem dX8_draw_8 : decode cX8_draw 8 = .ok (.iadd, 1) := by decide +kernel
theorem dX8_draw_9 : decode cX8_draw 9 = .ok (.ldc 99, 2) := by decide +kernel
theorem dX8_draw_11 : decode cX8_draw 11 = .ok (.irem, 1) := by decide +kernel
theorem dX8_draw_12 : decode cX8_draw 12 = .ok (.ireturn, 1) := by decide +kernel
theorem dX8_diceOf_0 : decode cX8_diceOf 0 = .ok (.iconst 1, 1) := by decide +kernel
theorem dX8_diceOf_1 : decode cX8_diceOf 1 = .ok (.iload_n 0, 1) := by decide +kernel
theorem dX8_diceOf_2 : decode cX8_diceOf 2 = .ok (.sipush 10923, 3) := by decide +kernel
theorem dX8_diceOf_5 : decode cX8_diceOf 5 = .ok (.idiv, 1) := by decide +kernel
theorem dX8_diceOf_6 : decode cX8_diceOf 6 = .ok (.iadd, 1) := by decide +kernel
theorem dX8_diceOf_7 : decode cX8_diceOf 7 = .ok (.ireturn, 1) := by decide +kernel
theorem dX8_asks_0 : decode cX8_asks 0 = .ok (.iload_n 1, 1) := by decide +kernel
theorem dX8_asks_1 : decode cX8_asks 1 = .ok (.iconst 2, 1) := by decide +kernel
theorem dX8_asks_2 : decode cX8_asks 2 = .ok (.iadd, 1) := by decide +kernel
theorem dX8_asks_3 : decode cX8_asks 3 = .ok (.iconst 3, 1) := by decide +kernel
theorem dX8_asks_4 : decode cX8_asks 4 = .ok (.idiv, 1) := by decide +kernel
theorem dX8_asks_5 : decode cX8_asks 5 = .ok (.iconst 2, 1) := by decide +kernel
theorem dX8_asks_6 : decode cX8_asks 6 = .ok (.aload_n 0, 1) := by decide +kernel
theorem dX8_asks_7 : decode cX8_asks 7 = .ok (.iload_n 2, 1) := by decide +kernel
theorem dX8_asks_8 : decode cX8_asks 8 = .ok (.iconst 5, 1) := by decide +kernel
theorem dX8_asks_9 : decode cX8_asks 9 = .ok (.invokevirtual 43, 3) := by decide +kernel
theorem dX8_asks_12 : decode cX8_asks 12 = .ok (.imul, 1) := by decide +kernel
theorem dX8_asks_13 : decode cX8_asks 13 = .ok (.iadd, 1) := by decide +kernel
theorem dX8_asks_14 : decode cX8_asks 14 = .ok (.ireturn, 1) := by decide +kernel
theorem dX8_reason_0 : decode cX8_reason 0 = .ok (.iload_n 1, 1) := by decide +kernel
theorem dX8_reason_1 : decode cX8_reason 1 = .ok (.iload_n 2, 1) := by decide +kernel
theorem dX8_reason_2 : decode cX8_reason 2 = .ok (.invokestatic 58, 3) := by decide +kernel
theorem dX8_reason_5 : decode cX8_reason 5 = .ok (.istore 5, 2) := by decide +kernel
theorem dX8_reason_7 : decode cX8_reason 7 = .ok (.aload_n 0, 1) := by decide +kernel
theorem dX8_reason_8 : decode cX8_reason 8 = .ok (.iload_n 3, 1) := by decide +kernel
theorem dX8_reason_9 : decode cX8_reason 9 = .ok (.invokevirtual 96, 3) := by decide +kernel
theorem dX8_reason_12 : decode cX8_reason 12 = .ok (.ifCond .ne 5, 3) := by decide +kernel
theorem dX8_reason_15 : decode cX8_reason 15 = .ok (.iconst 1, 1) := by decide +kernel
theorem dX8_reason_16 : decode cX8_reason 16 = .ok (.ireturn, 1) := by decide +kernel
theorem dX8_reason_17 : decode cX8_reason 17 = .ok (.aload_n 0, 1) := by decide +kernel
theorem dX8_reason_18 : decode cX8_reason 18 = .ok (.getfield 7, 3) := by decide +kernel
theorem dX8_reason_21 : decode cX8_reason 21 = .ok (.iload 5, 2) := by decide +kernel
theorem dX8_reason_23 : decode cX8_reason 23 = .ok (.iconst 1, 1) := by decide +kernel
theorem dX8_reason_24 : decode cX8_reason 24 = .ok (.iadd, 1) := by decide +kernel
theorem dX8_reason_25 : decode cX8_reason 25 = .ok (.iaload, 1) := by decide +kernel
theorem dX8_reason_26 : decode cX8_reason 26 = .ok (.aload_n 0, 1) := by decide +kernel
theorem dX8_reason_27 : decode cX8_reason 27 = .ok (.getfield 7, 3) := by decide +kernel
theorem dX8_reason_30 : decode cX8_reason 30 = .ok (.bipush 7, 2) := by decide +kernel
theorem dX8_reason_32 : decode cX8_reason 32 = .ok (.iaload, 1) := by decide +kernel
theorem dX8_reason_33 : decode cX8_reason 33 = .ok (.if_icmp .lt 5, 3) := by decide +kernel
theorem dX8_reason_36 : decode cX8_reason 36 = .ok (.iconst 2, 1) := by decide +kernel
theorem dX8_reason_37 : decode cX8_reason 37 = .ok (.ireturn, 1) := by decide +kernel
theorem dX8_reason_38 : decode cX8_reason 38 = .ok (.aload_n 0, 1) := by decide +kernel
theorem dX8_reason_39 : decode cX8_reason 39 = .ok (.getfield 7, 3) := by decide +kernel
theorem dX8_reason_42 : decode cX8_reason 42 = .ok (.iload 5, 2) := by decide +kernel
theorem dX8_reason_44 : decode cX8_reason 44 = .ok (.iconst 3, 1) := by decide +kernel
theorem dX8_reason_45 : decode cX8_reason 45 = .ok (.iadd, 1) := by decide +kernel
theorem dX8_reason_46 : decode cX8_reason 46 = .ok (.iaload, 1) := by decide +kernel
theorem dX8_reason_47 : decode cX8_reason 47 = .ok (.iload_n 3, 1) := by decide +kernel
theorem dX8_reason_48 : decode cX8_reason 48 = .ok (.ishr, 1) := by decide +kernel
theorem dX8_reason_49 : decode cX8_reason 49 = .ok (.iconst 1, 1) := by decide +kernel
theorem dX8_reason_50 : decode cX8_reason 50 = .ok (.iand, 1) := by decide +kernel
theorem dX8_reason_51 : decode cX8_reason 51 = .ok (.iconst 1, 1) := by decide +kernel
theorem dX8_reason_52 : decode cX8_reason 52 = .ok (.if_icmp .ne 5, 3) := by decide +kernel
theorem dX8_reason_55 : decode cX8_reason 55 = .ok (.iconst 3, 1) := by decide +kernel
theorem dX8_reason_56 : decode cX8_reason 56 = .ok (.ireturn, 1) := by decide +kernel
theorem dX8_reason_57 : decode cX8_reason 57 = .ok (.aload_n 0, 1) := by decide +kernel
theorem dX8_reason_58 : decode cX8_reason 58 = .ok (.iload_n 1, 1) := by decide +kernel
theorem dX8_reason_59 : decode cX8_reason 59 = .ok (.iconst 1, 1) := by decide +kernel
theorem dX8_reason_60 : decode cX8_reason 60 = .ok (.invokevirtual 43, 3) := by decide +kernel
theorem dX8_reason_63 : decode cX8_reason 63 = .ok (.iload 4, 2) := by decide +kernel
theorem dX8_reason_65 : decode cX8_reason 65 = .ok (.isub, 1) := by decide +kernel
theorem dX8_reason_66 : decode cX8_reason 66 = .ok (.aload_n 0, 1) := by decide +kernel
theorem dX8_reason_67 : decode cX8_reason 67 = .ok (.getfield 7, 3) := by decide +kernel
theorem dX8_reason_70 : decode cX8_reason 70 = .ok (.bipush 6, 2) := by decide +kernel
theorem dX8_reason_72 : decode cX8_reason 72 = .ok (.iaload, 1) := by decide +kernel
theorem dX8_reason_73 : decode cX8_reason 73 = .ok (.ineg, 1) := by decide +kernel
theorem dX8_reason_74 : decode cX8_reason 74 = .ok (.if_icmp .ge 5, 3) := by decide +kernel
theorem dX8_reason_77 : decode cX8_reason 77 = .ok (.iconst 4, 1) := by decide +kernel
theorem dX8_reason_78 : decode cX8_reason 78 = .ok (.ireturn, 1) := by decide +kernel
theorem dX8_reason_79 : decode cX8_reason 79 = .ok (.iload 4, 2) := by decide +kernel
theorem dX8_reason_81 : decode cX8_reason 81 = .ok (.aload_n 0, 1) := by decide +kernel
theorem dX8_reason_82 : decode cX8_reason 82 = .ok (.aload_n 0, 1) := by decide +kernel
theorem dX8_reason_83 : decode cX8_reason 83 = .ok (.getfield 7, 3) := by decide +kernel
theorem dX8_reason_86 : decode cX8_reason 86 = .ok (.iload 5, 2) := by decide +kernel
theorem dX8_reason_88 : decode cX8_reason 88 = .ok (.iconst 0, 1) := by decide +kernel
theorem dX8_reason_89 : decode cX8_reason 89 = .ok (.iadd, 1) := by decide +kernel
theorem dX8_reason_90 : decode cX8_reason 90 = .ok (.iaload, 1) := by decide +kernel
theorem dX8_reason_91 : decode cX8_reason 91 = .ok (.iload_n 3, 1) := by decide +kernel
theorem dX8_reason_92 : decode cX8_reason 92 = .ok (.invokevirtual 100, 3) := by decide +kernel
theorem dX8_reason_95 : decode cX8_reason 95 = .ok (.if_icmp .ge 7, 3) := by decide +kernel
theorem dX8_reason_98 : decode cX8_reason 98 = .ok (.iconst 5, 1) := by decide +kernel
theorem dX8_reason_99 : decode cX8_reason 99 = .ok (.goto 4, 3) := by decide +kernel
theorem dX8_reason_102 : decode cX8_reason 102 = .ok (.iconst 0, 1) := by decide +kernel
theorem dX8_reason_103 : decode cX8_reason 103 = .ok (.ireturn, 1) := by decide +kernel
theorem dX8_sellError_0 : decode cX8_sellError 0 = .ok (.aload_n 0, 1) := by decide +kernel
theorem dX8_sellError_1 : decode cX8_sellError 1 = .ok (.iload_n 1, 1) := by decide +kernel
theorem dX8_sellError_2 : decode cX8_sellError 2 = .ok (.iload_n 2, 1) := by decide +kernel
theorem dX8_sellError_3 : decode cX8_sellError 3 = .ok (.invokevirtual 103, 3) := by decide +kernel
theorem dX8_sellError_6 : decode cX8_sellError 6 = .ok (.ifCond .eq 10, 3) := by decide +kernel
theorem dX8_sellError_9 : decode cX8_sellError 9 = .ok (.iload_n 3, 1) := by decide +kernel
theorem dX8_sellError_10 : decode cX8_sellError 10 = .ok (.invokestatic 39, 3) := by decide +kernel
theorem dX8_sellError_13 : decode cX8_sellError 13 = .ok (.ifCond .ne 5, 3) := by decide +kernel
theorem dX8_sellError_16 : decode cX8_sellError 16 = .ok (.iconst (-1), 1) := by decide +kernel
theorem dX8_sellError_17 : decode cX8_sellError 17 = .ok (.ireturn, 1) := by decide +kernel
theorem dX8_sellError_18 : decode cX8_sellError 18 = .ok (.iload 4, 2) := by decide +kernel
theorem dX8_sellError_20 : decode cX8_sellError 20 = .ok (.iconst 0, 1) := by decide +kernel
theorem dX8_sellError_21 : decode cX8_sellError 21 = .ok (.bipush 99, 2) := by decide +kernel
theorem dX8_sellError_23 : decode cX8_sellError 23 = .ok (.invokestatic 35, 3) := by decide +kernel
theorem dX8_sellError_26 : decode cX8_sellError 26 = .ok (.ifCond .eq 12, 3) := by decide +kernel
theorem dX8_sellError_29 : decode cX8_sellError 29 = .ok (.iload_n 1, 1) := by decide +kernel
theorem dX8_sellError_30 : decode cX8_sellError 30 = .ok (.iload_n 3, 1) := by decide +kernel
theorem dX8_sellError_31 : decode cX8_sellError 31 = .ok (.if_icmp .eq 7, 3) := by decide +kernel
theorem dX8_sellError_34 : decode cX8_sellError 34 = .ok (.iconst 0, 1) := by decide +kernel
theorem dX8_sellError_35 : decode cX8_sellError 35 = .ok (.goto 5, 3) := by decide +kernel
theorem dX8_sellError_38 : decode cX8_sellError 38 = .ok (.bipush (-2), 2) := by decide +kernel
theorem dX8_sellError_40 : decode cX8_sellError 40 = .ok (.ireturn, 1) := by decide +kernel
theorem dX8_doSell_0 : decode cX8_doSell 0 = .ok (.iload_n 1, 1) := by decide +kernel
theorem dX8_doSell_1 : decode cX8_doSell 1 = .ok (.iload_n 2, 1) := by decide +kernel
theorem dX8_doSell_2 : decode cX8_doSell 2 = .ok (.invokestatic 58, 3) := by decide +kernel
theorem dX8_doSell_5 : decode cX8_doSell 5 = .ok (.istore 5, 2) := by decide +kernel
theorem dX8_doSell_7 : decode cX8_doSell 7 = .ok (.iload_n 3, 1) := by decide +kernel
theorem dX8_doSell_8 : decode cX8_doSell 8 = .ok (.aload_n 0, 1) := by decide +kernel
theorem dX8_doSell_9 : decode cX8_doSell 9 = .ok (.iload_n 3, 1) := by decide +kernel
theorem dX8_doSell_10 : decode cX8_doSell 10 = .ok (.iconst 5, 1) := by decide +kernel
theorem dX8_doSell_11 : decode cX8_doSell 11 = .ok (.invokevirtual 43, 3) := by decide +kernel
theorem dX8_doSell_14 : decode cX8_doSell 14 = .ok (.invokestatic 58, 3) := by decide +kernel
theorem dX8_doSell_17 : decode cX8_doSell 17 = .ok (.istore 6, 2) := by decide +kernel
theorem dX8_doSell_19 : decode cX8_doSell 19 = .ok (.iconst 0, 1) := by decide +kernel
theorem dX8_doSell_20 : decode cX8_doSell 20 = .ok (.istore 7, 2) := by decide +kernel
theorem dX8_doSell_22 : decode cX8_doSell 22 = .ok (.iload 7, 2) := by decide +kernel
theorem dX8_doSell_24 : decode cX8_doSell 24 = .ok (.iconst 4, 1) := by decide +kernel
theorem dX8_doSell_25 : decode cX8_doSell 25 = .ok (.if_icmp .ge 29, 3) := by decide +kernel
theorem dX8_doSell_28 : decode cX8_doSell 28 = .ok (.aload_n 0, 1) := by decide +kernel
theorem dX8_doSell_29 : decode cX8_doSell 29 = .ok (.getfield 7, 3) := by decide +kernel
theorem dX8_doSell_32 : decode cX8_doSell 32 = .ok (.iload 6, 2) := by decide +kernel
theorem dX8_doSell_34 : decode cX8_doSell 34 = .ok (.iload 7, 2) := by decide +kernel
theorem dX8_doSell_36 : decode cX8_doSell 36 = .ok (.iadd, 1) := by decide +kernel
theorem dX8_doSell_37 : decode cX8_doSell 37 = .ok (.aload_n 0, 1) := by decide +kernel
theorem dX8_doSell_38 : decode cX8_doSell 38 = .ok (.getfield 7, 3) := by decide +kernel
theorem dX8_doSell_41 : decode cX8_doSell 41 = .ok (.iload 5, 2) := by decide +kernel
theorem dX8_doSell_43 : decode cX8_doSell 43 = .ok (.iload 7, 2) := by decide +kernel
theorem dX8_doSell_45 : decode cX8_doSell 45 = .ok (.iadd, 1) := by decide +kernel
theorem dX8_doSell_46 : decode cX8_doSell 46 = .ok (.iaload, 1) := by decide +kernel
theorem dX8_doSell_47 : decode cX8_doSell 47 = .ok (.iastore, 1) := by decide +kernel
theorem dX8_doSell_48 : decode cX8_doSell 48 = .ok (.iinc 7 1, 3) := by decide +kernel
theorem dX8_doSell_51 : decode cX8_doSell 51 = .ok (.goto (-29), 3) := by decide +kernel
theorem dX8_doSell_54 : decode cX8_doSell 54 = .ok (.aload_n 0, 1) := by decide +kernel
theorem dX8_doSell_55 : decode cX8_doSell 55 = .ok (.getfield 7, 3) := by decide +kernel
theorem dX8_doSell_58 : decode cX8_doSell 58 = .ok (.iload 6, 2) := by decide +kernel
theorem dX8_doSell_60 : decode cX8_doSell 60 = .ok (.iconst 1, 1) := by decide +kernel
theorem dX8_doSell_61 : decode cX8_doSell 61 = .ok (.iadd, 1) := by decide +kernel
theorem dX8_doSell_62 : decode cX8_doSell 62 = .ok (.dup2, 1) := by decide +kernel
theorem dX8_doSell_63 : decode cX8_doSell 63 = .ok (.iaload, 1) := by decide +kernel
theorem dX8_doSell_64 : decode cX8_doSell 64 = .ok (.iconst 1, 1) := by decide +kernel
theorem dX8_doSell_65 : decode cX8_doSell 65 = .ok (.iadd, 1) := by decide +kernel
theorem dX8_doSell_66 : decode cX8_doSell 66 = .ok (.iastore, 1) := by decide +kernel
theorem dX8_doSell_67 : decode cX8_doSell 67 = .ok (.aload_n 0, 1) := by decide +kernel
theorem dX8_doSell_68 : decode cX8_doSell 68 = .ok (.getfield 7, 3) := by decide +kernel
theorem dX8_doSell_71 : decode cX8_doSell 71 = .ok (.iload 6, 2) := by decide +kernel
theorem dX8_doSell_73 : decode cX8_doSell 73 = .ok (.iconst 3, 1) := by decide +kernel
theorem dX8_doSell_74 : decode cX8_doSell 74 = .ok (.iadd, 1) := by decide +kernel
theorem dX8_doSell_75 : decode cX8_doSell 75 = .ok (.dup2, 1) := by decide +kernel
theorem dX8_doSell_76 : decode cX8_doSell 76 = .ok (.iaload, 1) := by decide +kernel
theorem dX8_doSell_77 : decode cX8_doSell 77 = .ok (.iconst 1, 1) := by decide +kernel
theorem dX8_doSell_78 : decode cX8_doSell 78 = .ok (.iload_n 3, 1) := by decide +kernel
theorem dX8_doSell_79 : decode cX8_doSell 79 = .ok (.ishl, 1) := by decide +kernel
theorem dX8_doSell_80 : decode cX8_doSell 80 = .ok (.ior, 1) := by decide +kernel
theorem dX8_doSell_81 : decode cX8_doSell 81 = .ok (.iastore, 1) := by decide +kernel
theorem dX8_doSell_82 : decode cX8_doSell 82 = .ok (.aload_n 0, 1) := by decide +kernel
theorem dX8_doSell_83 : decode cX8_doSell 83 = .ok (.iload_n 3, 1) := by decide +kernel
theorem dX8_doSell_84 : decode cX8_doSell 84 = .ok (.iconst 5, 1) := by decide +kernel
theorem dX8_doSell_85 : decode cX8_doSell 85 = .ok (.iconst 1, 1) := by decide +kernel
theorem dX8_doSell_86 : decode cX8_doSell 86 = .ok (.invokevirtual 71, 3) := by decide +kernel
theorem dX8_doSell_89 : decode cX8_doSell 89 = .ok (.aload_n 0, 1) := by decide +kernel
theorem dX8_doSell_90 : decode cX8_doSell 90 = .ok (.iload_n 1, 1) := by decide +kernel
theorem dX8_doSell_91 : decode cX8_doSell 91 = .ok (.iconst 5, 1) := by decide +kernel
theorem dX8_doSell_92 : decode cX8_doSell 92 = .ok (.iconst (-1), 1) := by decide +kernel
theorem dX8_doSell_93 : decode cX8_doSell 93 = .ok (.invokevirtual 71, 3) := by decide +kernel
theorem dX8_doSell_96 : decode cX8_doSell 96 = .ok (.iload 5, 2) := by decide +kernel
theorem dX8_doSell_98 : decode cX8_doSell 98 = .ok (.istore 7, 2) := by decide +kernel
theorem dX8_doSell_100 : decode cX8_doSell 100 = .ok (.iload 7, 2) := by decide +kernel
theorem dX8_doSell_102 : decode cX8_doSell 102 = .ok (.iload_n 1, 1) := by decide +kernel
theorem dX8_doSell_103 : decode cX8_doSell 103 = .ok (.aload_n 0, 1) := by decide +kernel
theorem dX8_doSell_104 : decode cX8_doSell 104 = .ok (.iload_n 1, 1) := by decide +kernel
theorem dX8_doSell_105 : decode cX8_doSell 105 = .ok (.iconst 5, 1) := by decide +kernel
theorem dX8_doSell_106 : decode cX8_doSell 106 = .ok (.invokevirtual 43, 3) := by decide +kernel
theorem dX8_doSell_109 : decode cX8_doSell 109 = .ok (.invokestatic 58, 3) := by decide +kernel
theorem dX8_doSell_112 : decode cX8_doSell 112 = .ok (.if_icmp .ge 25, 3) := by decide +kernel
theorem dX8_doSell_115 : decode cX8_doSell 115 = .ok (.aload_n 0, 1) := by decide +kernel
theorem dX8_doSell_116 : decode cX8_doSell 116 = .ok (.getfield 7, 3) := by decide +kernel
theorem dX8_doSell_119 : decode cX8_doSell 119 = .ok (.iload 7, 2) := by decide +kernel
theorem dX8_doSell_121 : decode cX8_doSell 121 = .ok (.aload_n 0, 1) := by decide +kernel
theorem dX8_doSell_122 : decode cX8_doSell 122 = .ok (.getfield 7, 3) := by decide +kernel
theorem dX8_doSell_125 : decode cX8_doSell 125 = .ok (.iload 7, 2) := by decide +kernel
theorem dX8_doSell_127 : decode cX8_doSell 127 = .ok (.iconst 4, 1) := by decide +kernel
theorem dX8_doSell_128 : decode cX8_doSell 128 = .ok (.iadd, 1) := by decide +kernel
theorem dX8_doSell_129 : decode cX8_doSell 129 = .ok (.iaload, 1) := by decide +kernel
theorem dX8_doSell_130 : decode cX8_doSell 130 = .ok (.iastore, 1) := by decide +kernel
theorem dX8_doSell_131 : decode cX8_doSell 131 = .ok (.iinc 7 1, 3) := by decide +kernel
theorem dX8_doSell_134 : decode cX8_doSell 134 = .ok (.goto (-34), 3) := by decide +kernel
theorem dX8_doSell_137 : decode cX8_doSell 137 = .ok (.aload_n 0, 1) := by decide +kernel
theorem dX8_doSell_138 : decode cX8_doSell 138 = .ok (.iload_n 1, 1) := by decide +kernel
theorem dX8_doSell_139 : decode cX8_doSell 139 = .ok (.iconst 1, 1) := by decide +kernel
theorem dX8_doSell_140 : decode cX8_doSell 140 = .ok (.iload 4, 2) := by decide +kernel
theorem dX8_doSell_142 : decode cX8_doSell 142 = .ok (.ineg, 1) := by decide +kernel
theorem dX8_doSell_143 : decode cX8_doSell 143 = .ok (.invokevirtual 71, 3) := by decide +kernel
theorem dX8_doSell_146 : decode cX8_doSell 146 = .ok (.aload_n 0, 1) := by decide +kernel
theorem dX8_doSell_147 : decode cX8_doSell 147 = .ok (.iload_n 3, 1) := by decide +kernel
theorem dX8_doSell_148 : decode cX8_doSell 148 = .ok (.iconst 1, 1) := by decide +kernel
theorem dX8_doSell_149 : decode cX8_doSell 149 = .ok (.iload 4, 2) := by decide +kernel
theorem dX8_doSell_151 : decode cX8_doSell 151 = .ok (.invokevirtual 71, 3) := by decide +kernel
theorem dX8_doSell_154 : decode cX8_doSell 154 = .ok (.aload_n 0, 1) := by decide +kernel
theorem dX8_doSell_155 : decode cX8_doSell 155 = .ok (.getfield 7, 3) := by decide +kernel
theorem dX8_doSell_158 : decode cX8_doSell 158 = .ok (.iconst 3, 1) := by decide +kernel
theorem dX8_doSell_159 : decode cX8_doSell 159 = .ok (.dup2, 1) := by decide +kernel
theorem dX8_doSell_160 : decode cX8_doSell 160 = .ok (.iaload, 1) := by decide +kernel
theorem dX8_doSell_161 : decode cX8_doSell 161 = .ok (.iconst 1, 1) := by decide +kernel
theorem dX8_doSell_162 : decode cX8_doSell 162 = .ok (.iadd, 1) := by decide +kernel
theorem dX8_doSell_163 : decode cX8_doSell 163 = .ok (.iastore, 1) := by decide +kernel
theorem dX8_doSell_164 : decode cX8_doSell 164 = .ok (.aload_n 0, 1) := by decide +kernel
theorem dX8_doSell_165 : decode cX8_doSell 165 = .ok (.iload_n 3, 1) := by decide +kernel
theorem dX8_doSell_166 : decode cX8_doSell 166 = .ok (.iconst 1, 1) := by decide +kernel
theorem dX8_doSell_167 : decode cX8_doSell 167 = .ok (.invokevirtual 43, 3) := by decide +kernel
theorem dX8_doSell_170 : decode cX8_doSell 170 = .ok (.sipush 1000, 3) := by decide +kernel
theorem dX8_doSell_173 : decode cX8_doSell 173 = .ok (.iadd, 1) := by decide +kernel
theorem dX8_doSell_174 : decode cX8_doSell 174 = .ok (.ireturn, 1) := by decide +kernel
theorem dX8_snake_0 : decode cX8_snake 0 = .ok (.iload_n 1, 1) := by decide +kernel
theorem dX8_snake_1 : decode cX8_snake 1 = .ok (.bipush 7, 2) := by decide +kernel
theorem dX8_snake_3 : decode cX8_snake 3 = .ok (.bipush 59, 2) := by decide +kernel
theorem dX8_snake_5 : decode cX8_snake 5 = .ok (.invokestatic 35, 3) := by decide +kernel
theorem dX8_snake_8 : decode cX8_snake 8 = .ok (.ifCond .eq 26, 3) := by decide +kernel
theorem dX8_snake_11 : decode cX8_snake 11 = .ok (.iload_n 2, 1) := by decide +kernel
theorem dX8_snake_12 : decode cX8_snake 12 = .ok (.iconst 1, 1) := by decide +kernel
theorem dX8_snake_13 : decode cX8_snake 13 = .ok (.bipush 53, 2) := by decide +kernel
theorem dX8_snake_15 : decode cX8_snake 15 = .ok (.invokestatic 35, 3) := by decide +kernel
theorem dX8_snake_18 : decode cX8_snake 18 = .ok (.ifCond .eq 16, 3) := by decide +kernel
theorem dX8_snake_21 : decode cX8_snake 21 = .ok (.iload_n 1, 1) := by decide +kernel
theorem dX8_snake_22 : decode cX8_snake 22 = .ok (.iload_n 2, 1) := by decide +kernel
theorem dX8_snake_23 : decode cX8_snake 23 = .ok (.isub, 1) := by decide +kernel
theorem dX8_snake_24 : decode cX8_snake 24 = .ok (.bipush 6, 2) := by decide +kernel
theorem dX8_snake_26 : decode cX8_snake 26 = .ok (.bipush 40, 2) := by decide +kernel
theorem dX8_snake_28 : decode cX8_snake 28 = .ok (.invokestatic 35, 3) := by decide +kernel
theorem dX8_snake_31 : decode cX8_snake 31 = .ok (.ifCond .ne 6, 3) := by decide +kernel
theorem dX8_snake_34 : decode cX8_snake 34 = .ok (.bipush (-2), 2) := by decide +kernel
theorem dX8_snake_36 : decode cX8_snake 36 = .ok (.ireturn, 1) := by decide +kernel
theorem dX8_snake_37 : decode cX8_snake 37 = .ok (.aload_n 0, 1) := by decide +kernel
theorem dX8_snake_38 : decode cX8_snake 38 = .ok (.iload_n 1, 1) := by decide +kernel
theorem dX8_snake_39 : decode cX8_snake 39 = .ok (.invokevirtual 65, 3) := by decide +kernel
theorem dX8_snake_42 : decode cX8_snake 42 = .ok (.bipush (-5), 2) := by decide +kernel
theorem dX8_snake_44 : decode cX8_snake 44 = .ok (.if_icmp .eq 6, 3) := by decide +kernel
theorem dX8_snake_47 : decode cX8_snake 47 = .ok (.bipush (-4), 2) := by decide +kernel
theorem dX8_snake_49 : decode cX8_snake 49 = .ok (.ireturn, 1) := by decide +kernel
theorem dX8_snake_50 : decode cX8_snake 50 = .ok (.aload_n 0, 1) := by decide +kernel
theorem dX8_snake_51 : decode cX8_snake 51 = .ok (.invokevirtual 106, 3) := by decide +kernel
theorem dX8_snake_54 : decode cX8_snake 54 = .ok (.bipush 10, 2) := by decide +kernel
theorem dX8_snake_56 : decode cX8_snake 56 = .ok (.if_icmp .ne 6, 3) := by decide +kernel
theorem dX8_snake_59 : decode cX8_snake 59 = .ok (.bipush (-3), 2) := by decide +kernel
theorem dX8_snake_61 : decode cX8_snake 61 = .ok (.ireturn, 1) := by decide +kernel
theorem dX8_snake_62 : decode cX8_snake 62 = .ok (.aload_n 0, 1) := by decide +kernel
theorem dX8_snake_63 : decode cX8_snake 63 = .ok (.invokevirtual 110, 3) := by decide +kernel
theorem dX8_snake_66 : decode cX8_snake 66 = .ok (.iconst 0, 1) := by decide +kernel
theorem dX8_snake_67 : decode cX8_snake 67 = .ok (.istore_n 3, 1) := by decide +kernel
theorem dX8_snake_68 : decode cX8_snake 68 = .ok (.aload_n 0, 1) := by decide +kernel
theorem dX8_snake_69 : decode cX8_snake 69 = .ok (.iload_n 3, 1) := by decide +kernel
theorem dX8_snake_70 : decode cX8_snake 70 = .ok (.invokevirtual 113, 3) := by decide +kernel
theorem dX8_snake_73 : decode cX8_snake 73 = .ok (.ifCond .eq 9, 3) := by decide +kernel
theorem dX8_snake_76 : decode cX8_snake 76 = .ok (.iinc 3 1, 3) := by decide +kernel
theorem dX8_snake_79 : decode cX8_snake 79 = .ok (.goto (-11), 3) := by decide +kernel
theorem dX8_snake_82 : decode cX8_snake 82 = .ok (.sipush 352, 3) := by decide +kernel
theorem dX8_snake_85 : decode cX8_snake 85 = .ok (.iconst 4, 1) := by decide +kernel
theorem dX8_snake_86 : decode cX8_snake 86 = .ok (.iload_n 3, 1) := by decide +kernel
theorem dX8_snake_87 : decode cX8_snake 87 = .ok (.imul, 1) := by decide +kernel
theorem dX8_snake_88 : decode cX8_snake 88 = .ok (.iadd, 1) := by decide +kernel
theorem dX8_snake_89 : decode cX8_snake 89 = .ok (.istore 4, 2) := by decide +kernel
theorem dX8_snake_91 : decode cX8_snake 91 = .ok (.aload_n 0, 1) := by decide +kernel
theorem dX8_snake_92 : decode cX8_snake 92 = .ok (.getfield 7, 3) := by decide +kernel
theorem dX8_snake_95 : decode cX8_snake 95 = .ok (.iload 4, 2) := by decide +kernel
theorem dX8_snake_97 : decode cX8_snake 97 = .ok (.iconst 0, 1) := by decide +kernel
theorem dX8_snake_98 : decode cX8_snake 98 = .ok (.iadd, 1) := by decide +kernel
theorem dX8_snake_99 : decode cX8_snake 99 = .ok (.iload_n 1, 1) := by decide +kernel
theorem dX8_snake_100 : decode cX8_snake 100 = .ok (.iastore, 1) := by decide +kernel
theorem dX8_snake_101 : decode cX8_snake 101 = .ok (.aload_n 0, 1) := by decide +kernel
theorem dX8_snake_102 : decode cX8_snake 102 = .ok (.getfield 7, 3) := by decide +kernel
theorem dX8_snake_105 : decode cX8_snake 105 = .ok (.iload 4, 2) := by decide +kernel
theorem dX8_snake_107 : decode cX8_snake 107 = .ok (.iconst 1, 1) := by decide +kernel
theorem dX8_snake_108 : decode cX8_snake 108 = .ok (.iadd, 1) := by decide +kernel
theorem dX8_snake_109 : decode cX8_snake 109 = .ok (.iload_n 2, 1) := by decide +kernel
theorem dX8_snake_110 : decode cX8_snake 110 = .ok (.iastore, 1) := by decide +kernel
theorem dX8_snake_111 : decode cX8_snake 111 = .ok (.aload_n 0, 1) := by decide +kernel
theorem dX8_snake_112 : decode cX8_snake 112 = .ok (.getfield 7, 3) := by decide +kernel
theorem dX8_snake_115 : decode cX8_snake 115 = .ok (.iload 4, 2) := by decide +kernel
theorem dX8_snake_117 : decode cX8_snake 117 = .ok (.iconst 2, 1) := by decide +kernel
theorem dX8_snake_118 : decode cX8_snake 118 = .ok (.iadd, 1) := by decide +kernel
theorem dX8_snake_119 : decode cX8_snake 119 = .ok (.iconst 0, 1) := by decide +kernel
theorem dX8_snake_120 : decode cX8_snake 120 = .ok (.iastore, 1) := by decide +kernel
theorem dX8_snake_121 : decode cX8_snake 121 = .ok (.aload_n 0, 1) := by decide +kernel
theorem dX8_snake_122 : decode cX8_snake 122 = .ok (.getfield 7, 3) := by decide +kernel
theorem dX8_snake_125 : decode cX8_snake 125 = .ok (.iload 4, 2) := by decide +kernel
theorem dX8_snake_127 : decode cX8_snake 127 = .ok (.iconst 3, 1) := by decide +kernel
theorem dX8_snake_128 : decode cX8_snake 128 = .ok (.iadd, 1) := by decide +kernel
theorem dX8_snake_129 : decode cX8_snake 129 = .ok (.iconst 0, 1) := by decide +kernel
theorem dX8_snake_130 : decode cX8_snake 130 = .ok (.iastore, 1) := by decide +kernel
theorem dX8_snake_131 : decode cX8_snake 131 = .ok (.iload_n 3, 1) := by decide +kernel
theorem dX8_snake_132 : decode cX8_snake 132 = .ok (.ireturn, 1) := by decide +kernel
theorem dX8_charm_0 : decode cX8_charm 0 = .ok (.aload_n 0, 1) := by decide +kernel
theorem dX8_charm_1 : decode cX8_charm 1 = .ok (.iload_n 1, 1) := by decide +kernel
theorem dX8_charm_2 : decode cX8_charm 2 = .ok (.invokevirtual 113, 3) := by decide +kernel
theorem dX8_charm_5 : decode cX8_charm 5 = .ok (.ifCond .ne 5, 3) := by decide +kernel
theorem dX8_charm_8 : decode cX8_charm 8 = .ok (.iconst (-1), 1) := by decide +kernel
theorem dX8_charm_9 : decode cX8_charm 9 = .ok (.ireturn, 1) := by decide +kernel
theorem dX8_charm_10 : decode cX8_charm 10 = .ok (.iload_n 2, 1) := by decide +kernel
theorem dX8_charm_11 : decode cX8_charm 11 = .ok (.iconst 1, 1) := by decide +kernel
theorem dX8_charm_12 : decode cX8_charm 12 = .ok (.bipush 10, 2) := by decide +kernel
theorem dX8_charm_14 : decode cX8_charm 14 = .ok (.invokestatic 35, 3) := by decide +kernel
theorem dX8_charm_17 : decode cX8_charm 17 = .ok (.ifCond .ne 6, 3) := by decide +kernel
theorem dX8_charm_20 : decode cX8_charm 20 = .ok (.bipush (-2), 2) := by decide +kernel
theorem dX8_charm_22 : decode cX8_charm 22 = .ok (.ireturn, 1) := by decide +kernel
theorem dX8_charm_23 : decode cX8_charm 23 = .ok (.aload_n 0, 1) := by decide +kernel
theorem dX8_charm_24 : decode cX8_charm 24 = .ok (.invokevirtual 110, 3) := by decide +kernel
theorem dX8_charm_27 : decode cX8_charm 27 = .ok (.sipush 352, 3) := by decide +kernel
theorem dX8_charm_30 : decode cX8_charm 30 = .ok (.iconst 4, 1) := by decide +kernel
theorem dX8_charm_31 : decode cX8_charm 31 = .ok (.iload_n 1, 1) := by decide +kernel
theorem dX8_charm_32 : decode cX8_charm 32 = .ok (.imul, 1) := by decide +kernel
theorem dX8_charm_33 : decode cX8_charm 33 = .ok (.iadd, 1) := by decide +kernel
theorem dX8_charm_34 : decode cX8_charm 34 = .ok (.istore_n 3, 1) := by decide +kernel
theorem dX8_charm_35 : decode cX8_charm 35 = .ok (.aload_n 0, 1) := by decide +kernel
theorem dX8_charm_36 : decode cX8_charm 36 = .ok (.getfield 7, 3) := by decide +kernel
theorem dX8_charm_39 : decode cX8_charm 39 = .ok (.iload_n 3, 1) := by decide +kernel
theorem dX8_charm_40 : decode cX8_charm 40 = .ok (.iconst 2, 1) := by decide +kernel
theorem dX8_charm_41 : decode cX8_charm 41 = .ok (.iadd, 1) := by decide +kernel
theorem dX8_charm_42 : decode cX8_charm 42 = .ok (.iaload, 1) := by decide +kernel
theorem dX8_charm_43 : decode cX8_charm 43 = .ok (.istore 4, 2) := by decide +kernel
theorem dX8_charm_45 : decode cX8_charm 45 = .ok (.aload_n 0, 1) := by decide +kernel
theorem dX8_charm_46 : decode cX8_charm 46 = .ok (.getfield 7, 3) := by decide +kernel
theorem dX8_charm_49 : decode cX8_charm 49 = .ok (.iload_n 3, 1) := by decide +kernel
theorem dX8_charm_50 : decode cX8_charm 50 = .ok (.iconst 2, 1) := by decide +kernel
theorem dX8_charm_51 : decode cX8_charm 51 = .ok (.iadd, 1) := by decide +kernel
theorem dX8_charm_52 : decode cX8_charm 52 = .ok (.iload_n 2, 1) := by decide +kernel
theorem dX8_charm_53 : decode cX8_charm 53 = .ok (.bipush 10, 2) := by decide +kernel
theorem dX8_charm_55 : decode cX8_charm 55 = .ok (.if_icmp .ne 7, 3) := by decide +kernel
theorem dX8_charm_58 : decode cX8_charm 58 = .ok (.iconst 0, 1) := by decide +kernel
theorem dX8_charm_59 : decode cX8_charm 59 = .ok (.goto 7, 3) := by decide +kernel
theorem dX8_charm_62 : decode cX8_charm 62 = .ok (.iload 4, 2) := by decide +kernel
theorem dX8_charm_64 : decode cX8_charm 64 = .ok (.iload_n 2, 1) := by decide +kernel
theorem dX8_charm_65 : decode cX8_charm 65 = .ok (.iadd, 1) := by decide +kernel
theorem dX8_charm_66 : decode cX8_charm 66 = .ok (.iastore, 1) := by decide +kernel
theorem dX8_charm_67 : decode cX8_charm 67 = .ok (.aload_n 0, 1) := by decide +kernel
theorem dX8_charm_68 : decode cX8_charm 68 = .ok (.getfield 7, 3) := by decide +kernel
theorem dX8_charm_71 : decode cX8_charm 71 = .ok (.iload_n 3, 1) := by decide +kernel
theorem dX8_charm_72 : decode cX8_charm 72 = .ok (.iconst 0, 1) := by decide +kernel
theorem dX8_charm_73 : decode cX8_charm 73 = .ok (.iadd, 1) := by decide +kernel
theorem dX8_charm_74 : decode cX8_charm 74 = .ok (.iload_n 2, 1) := by decide +kernel
theorem dX8_charm_75 : decode cX8_charm 75 = .ok (.bipush 10, 2) := by decide +kernel
theorem dX8_charm_77 : decode cX8_charm 77 = .ok (.if_icmp .ne 7, 3) := by decide +kernel
theorem dX8_charm_80 : decode cX8_charm 80 = .ok (.iconst 0, 1) := by decide +kernel
theorem dX8_charm_81 : decode cX8_charm 81 = .ok (.goto 11, 3) := by decide +kernel
theorem dX8_charm_84 : decode cX8_charm 84 = .ok (.aload_n 0, 1) := by decide +kernel
theorem dX8_charm_85 : decode cX8_charm 85 = .ok (.getfield 7, 3) := by decide +kernel
theorem dX8_charm_88 : decode cX8_charm 88 = .ok (.iload_n 3, 1) := by decide +kernel
theorem dX8_charm_89 : decode cX8_charm 89 = .ok (.iconst 0, 1) := by decide +kernel
theorem dX8_charm_90 : decode cX8_charm 90 = .ok (.iadd, 1) := by decide +kernel
theorem dX8_charm_91 : decode cX8_charm 91 = .ok (.iaload, 1) := by decide +kernel
theorem dX8_charm_92 : decode cX8_charm 92 = .ok (.iastore, 1) := by decide +kernel
theorem dX8_charm_93 : decode cX8_charm 93 = .ok (.iload 4, 2) := by decide +kernel
theorem dX8_charm_95 : decode cX8_charm 95 = .ok (.ireturn, 1) := by decide +kernel
theorem dX8_turnError_0 : decode cX8_turnError 0 = .ok (.iload_n 1, 1) := by decide +kernel
theorem dX8_turnError_1 : decode cX8_turnError 1 = .ok (.iconst 1, 1) := by decide +kernel
theorem dX8_turnError_2 : decode cX8_turnError 2 = .ok (.bipush 6, 2) := by decide +kernel
theorem dX8_turnError_4 : decode cX8_turnError 4 = .ok (.invokestatic 35, 3) := by decide +kernel
theorem dX8_turnError_7 : decode cX8_turnError 7 = .ok (.ifCond .ne 8, 3) := by decide +kernel
theorem dX8_turnError_10 : decode cX8_turnError 10 = .ok (.bipush (-2), 2) := by decide +kernel
theorem dX8_turnError_12 : decode cX8_turnError 12 = .ok (.goto 16, 3) := by decide +kernel
theorem dX8_turnError_15 : decode cX8_turnError 15 = .ok (.aload_n 0, 1) := by decide +kernel
theorem dX8_turnError_16 : decode cX8_turnError 16 = .ok (.invokevirtual 92, 3) := by decide +kernel
theorem dX8_turnError_19 : decode cX8_turnError 19 = .ok (.ifCond .eq 8, 3) := by decide +kernel
theorem dX8_turnError_22 : decode cX8_turnError 22 = .ok (.bipush (-4), 2) := by decide +kernel
theorem dX8_turnError_24 : decode cX8_turnError 24 = .ok (.goto 4, 3) := by decide +kernel
theorem dX8_turnError_27 : decode cX8_turnError 27 = .ok (.iconst 0, 1) := by decide +kernel
theorem dX8_turnError_28 : decode cX8_turnError 28 = .ok (.ireturn, 1) := by decide +kernel
theorem dX8_turn_0 : decode cX8_turn 0 = .ok (.aload_n 0, 1) := by decide +kernel
theorem dX8_turn_1 : decode cX8_turn 1 = .ok (.iload_n 1, 1) := by decide +kernel
theorem dX8_turn_2 : decode cX8_turn 2 = .ok (.invokevirtual 116, 3) := by decide +kernel
theorem dX8_turn_5 : decode cX8_turn 5 = .ok (.istore_n 2, 1) := by decide +kernel
theorem dX8_turn_6 : decode cX8_turn 6 = .ok (.iload_n 2, 1) := by decide +kernel
theorem dX8_turn_7 : decode cX8_turn 7 = .ok (.ifCond .ge 5, 3) := by decide +kernel
theorem dX8_turn_10 : decode cX8_turn 10 = .ok (.iload_n 2, 1) := by decide +kernel
theorem dX8_turn_11 : decode cX8_turn 11 = .ok (.ireturn, 1) := by decide +kernel
theorem dX8_turn_12 : decode cX8_turn 12 = .ok (.aload_n 0, 1) := by decide +kernel
theorem dX8_turn_13 : decode cX8_turn 13 = .ok (.invokevirtual 110, 3) := by decide +kernel
theorem dX8_turn_16 : decode cX8_turn 16 = .ok (.aload_n 0, 1) := by decide +kernel
theorem dX8_turn_17 : decode cX8_turn 17 = .ok (.iload_n 1, 1) := by decide +kernel
theorem dX8_turn_18 : decode cX8_turn 18 = .ok (.invokevirtual 119, 3) := by decide +kernel
theorem dX8_turn_21 : decode cX8_turn 21 = .ok (.ireturn, 1) := by decide +kernel
theorem dX8_play_0 : decode cX8_play 0 = .ok (.iload_n 1, 1) := by decide +kernel
theorem dX8_play_1 : decode cX8_play 1 = .ok (.iconst 0, 1) := by decide +kernel
theorem dX8_play_2 : decode cX8_play 2 = .ok (.ldc 122, 2) := by decide +kernel
theorem dX8_play_4 : decode cX8_play 4 = .ok (.invokestatic 35, 3) := by decide +kernel
theorem dX8_play_7 : decode cX8_play 7 = .ok (.ifCond .eq 13, 3) := by decide +kernel
theorem dX8_play_10 : decode cX8_play 10 = .ok (.iload_n 2, 1) := by decide +kernel
theorem dX8_play_11 : decode cX8_play 11 = .ok (.iconst 1, 1) := by decide +kernel
theorem dX8_play_12 : decode cX8_play 12 = .ok (.bipush 50, 2) := by decide +kernel
theorem dX8_play_14 : decode cX8_play 14 = .ok (.invokestatic 35, 3) := by decide +kernel
theorem dX8_play_17 : decode cX8_play 17 = .ok (.ifCond .ne 6, 3) := by decide +kernel
theorem dX8_play_20 : decode cX8_play 20 = .ok (.bipush (-2), 2) := by decide +kernel
theorem dX8_play_22 : decode cX8_play 22 = .ok (.ireturn, 1) := by decide +kernel
theorem dX8_play_23 : decode cX8_play 23 = .ok (.aload_n 0, 1) := by decide +kernel
theorem dX8_play_24 : decode cX8_play 24 = .ok (.invokevirtual 92, 3) := by decide +kernel
theorem dX8_play_27 : decode cX8_play 27 = .ok (.ifCond .eq 6, 3) := by decide +kernel
theorem dX8_play_30 : decode cX8_play 30 = .ok (.bipush (-4), 2) := by decide +kernel
theorem dX8_play_32 : decode cX8_play 32 = .ok (.ireturn, 1) := by decide +kernel
theorem dX8_play_33 : decode cX8_play 33 = .ok (.aload_n 0, 1) := by decide +kernel
theorem dX8_play_34 : decode cX8_play 34 = .ok (.invokevirtual 110, 3) := by decide +kernel
theorem dX8_play_37 : decode cX8_play 37 = .ok (.iconst 0, 1) := by decide +kernel
theorem dX8_play_38 : decode cX8_play 38 = .ok (.istore_n 3, 1) := by decide +kernel
theorem dX8_play_39 : decode cX8_play 39 = .ok (.iload_n 1, 1) := by decide +kernel
theorem dX8_play_40 : decode cX8_play 40 = .ok (.istore 4, 2) := by decide +kernel
theorem dX8_play_42 : decode cX8_play 42 = .ok (.iload_n 3, 1) := by decide +kernel
theorem dX8_play_43 : decode cX8_play 43 = .ok (.iload_n 2, 1) := by decide +kernel
theorem dX8_play_44 : decode cX8_play 44 = .ok (.if_icmp .ge 33, 3) := by decide +kernel
theorem dX8_play_47 : decode cX8_play 47 = .ok (.aload_n 0, 1) := by decide +kernel
theorem dX8_play_48 : decode cX8_play 48 = .ok (.invokevirtual 92, 3) := by decide +kernel
theorem dX8_play_51 : decode cX8_play 51 = .ok (.ifCond .ne 26, 3) := by decide +kernel
theorem dX8_play_54 : decode cX8_play 54 = .ok (.iload 4, 2) := by decide +kernel
theorem dX8_play_56 : decode cX8_play 56 = .ok (.invokestatic 123, 3) := by decide +kernel
theorem dX8_play_59 : decode cX8_play 59 = .ok (.istore 4, 2) := by decide +kernel
theorem dX8_play_61 : decode cX8_play 61 = .ok (.aload_n 0, 1) := by decide +kernel
theorem dX8_play_62 : decode cX8_play 62 = .ok (.iload 4, 2) := by decide +kernel
theorem dX8_play_64 : decode cX8_play 64 = .ok (.invokestatic 126, 3) := by decide +kernel
theorem dX8_play_67 : decode cX8_play 67 = .ok (.invokevirtual 119, 3) := by decide +kernel
theorem dX8_play_70 : decode cX8_play 70 = .ok (.pop, 1) := by decide +kernel
theorem dX8_play_71 : decode cX8_play 71 = .ok (.iinc 3 1, 3) := by decide +kernel
theorem dX8_play_74 : decode cX8_play 74 = .ok (.goto (-32), 3) := by decide +kernel
theorem dX8_play_77 : decode cX8_play 77 = .ok (.iload_n 3, 1) := by decide +kernel
theorem dX8_play_78 : decode cX8_play 78 = .ok (.ireturn, 1) := by decide +kernel
theorem dX8_sell_0 : decode cX8_sell 0 = .ok (.aload_n 0, 1) := by decide +kernel
theorem dX8_sell_1 : decode cX8_sell 1 = .ok (.iload_n 1, 1) := by decide +kernel
theorem dX8_sell_2 : decode cX8_sell 2 = .ok (.iload_n 2, 1) := by decide +kernel
theorem dX8_sell_3 : decode cX8_sell 3 = .ok (.iload_n 3, 1) := by decide +kernel
theorem dX8_sell_4 : decode cX8_sell 4 = .ok (.iload 4, 2) := by decide +kernel
theorem dX8_sell_6 : decode cX8_sell 6 = .ok (.invokevirtual 129, 3) := by decide +kernel
theorem dX8_sell_9 : decode cX8_sell 9 = .ok (.istore 5, 2) := by decide +kernel
theorem dX8_sell_11 : decode cX8_sell 11 = .ok (.iload 5, 2) := by decide +kernel
theorem dX8_sell_13 : decode cX8_sell 13 = .ok (.ifCond .ge 6, 3) := by decide +kernel
theorem dX8_sell_16 : decode cX8_sell 16 = .ok (.iload 5, 2) := by decide +kernel
theorem dX8_sell_18 : decode cX8_sell 18 = .ok (.ireturn, 1) := by decide +kernel
theorem dX8_sell_19 : decode cX8_sell 19 = .ok (.aload_n 0, 1) := by decide +kernel
theorem dX8_sell_20 : decode cX8_sell 20 = .ok (.iload_n 1, 1) := by decide +kernel
theorem dX8_sell_21 : decode cX8_sell 21 = .ok (.iload_n 2, 1) := by decide +kernel
theorem dX8_sell_22 : decode cX8_sell 22 = .ok (.iload_n 3, 1) := by decide +kernel
theorem dX8_sell_23 : decode cX8_sell 23 = .ok (.iload 4, 2) := by decide +kernel
theorem dX8_sell_25 : decode cX8_sell 25 = .ok (.invokevirtual 133, 3) := by decide +kernel
theorem dX8_sell_28 : decode cX8_sell 28 = .ok (.istore 6, 2) := by decide +kernel
theorem dX8_sell_30 : decode cX8_sell 30 = .ok (.iload 6, 2) := by decide +kernel
theorem dX8_sell_32 : decode cX8_sell 32 = .ok (.ifCond .le 9, 3) := by decide +kernel
theorem dX8_sell_35 : decode cX8_sell 35 = .ok (.bipush (-10), 2) := by decide +kernel
theorem dX8_sell_37 : decode cX8_sell 37 = .ok (.iload 6, 2) := by decide +kernel
theorem dX8_sell_39 : decode cX8_sell 39 = .ok (.isub, 1) := by decide +kernel
theorem dX8_sell_40 : decode cX8_sell 40 = .ok (.ireturn, 1) := by decide +kernel
theorem dX8_sell_41 : decode cX8_sell 41 = .ok (.aload_n 0, 1) := by decide +kernel
theorem dX8_sell_42 : decode cX8_sell 42 = .ok (.invokevirtual 110, 3) := by decide +kernel
theorem dX8_sell_45 : decode cX8_sell 45 = .ok (.aload_n 0, 1) := by decide +kernel
theorem dX8_sell_46 : decode cX8_sell 46 = .ok (.iload_n 1, 1) := by decide +kernel
theorem dX8_sell_47 : decode cX8_sell 47 = .ok (.iload_n 2, 1) := by decide +kernel
theorem dX8_sell_48 : decode cX8_sell 48 = .ok (.iload_n 3, 1) := by decide +kernel
theorem dX8_sell_49 : decode cX8_sell 49 = .ok (.iload 4, 2) := by decide +kernel
theorem dX8_sell_51 : decode cX8_sell 51 = .ok (.invokevirtual 136, 3) := by decide +kernel
theorem dX8_sell_54 : decode cX8_sell 54 = .ok (.ireturn, 1) := by decide +kernel
theorem dX8_set_0 : decode cX8_set 0 = .ok (.iload_n 1, 1) := by decide +kernel
theorem dX8_set_1 : decode cX8_set 1 = .ok (.iconst 0, 1) := by decide +kernel
theorem dX8_set_2 : decode cX8_set 2 = .ok (.iconst 2, 1) := by decide +kernel
theorem dX8_set_3 : decode cX8_set 3 = .ok (.invokestatic 35, 3) := by decide +kernel
theorem dX8_set_6 : decode cX8_set 6 = .ok (.ifCond .ne 5, 3) := by decide +kernel
theorem dX8_set_9 : decode cX8_set 9 = .ok (.iconst (-1), 1) := by decide +kernel
theorem dX8_set_10 : decode cX8_set 10 = .ok (.ireturn, 1) := by decide +kernel
theorem dX8_set_11 : decode cX8_set 11 = .ok (.iload_n 2, 1) := by decide +kernel
theorem dX8_set_12 : decode cX8_set 12 = .ok (.iload_n 1, 1) := by decide +kernel
theorem dX8_set_13 : decode cX8_set 13 = .ok (.iconst 2, 1) := by decide +kernel
theorem dX8_set_14 : decode cX8_set 14 = .ok (.if_icmp .ne 7, 3) := by decide +kernel
theorem dX8_set_17 : decode cX8_set 17 = .ok (.iconst 1, 1) := by decide +kernel
theorem dX8_set_18 : decode cX8_set 18 = .ok (.goto 4, 3) := by decide +kernel
theorem dX8_set_21 : decode cX8_set 21 = .ok (.iconst 0, 1) := by decide +kernel
theorem dX8_set_22 : decode cX8_set 22 = .ok (.iload_n 1, 1) := by decide +kernel
theorem dX8_set_23 : decode cX8_set 23 = .ok (.ifCond .ne 8, 3) := by decide +kernel
theorem dX8_set_26 : decode cX8_set 26 = .ok (.bipush 9, 2) := by decide +kernel
theorem dX8_set_28 : decode cX8_set 28 = .ok (.goto 14, 3) := by decide +kernel
theorem dX8_set_31 : decode cX8_set 31 = .ok (.iload_n 1, 1) := by decide +kernel
theorem dX8_set_32 : decode cX8_set 32 = .ok (.iconst 1, 1) := by decide +kernel
theorem dX8_set_33 : decode cX8_set 33 = .ok (.if_icmp .ne 8, 3) := by decide +kernel
theorem dX8_set_36 : decode cX8_set 36 = .ok (.bipush 50, 2) := by decide +kernel
theorem dX8_set_38 : decode cX8_set 38 = .ok (.goto 4, 3) := by decide +kernel
theorem dX8_set_41 : decode cX8_set 41 = .ok (.iconst 3, 1) := by decide +kernel
theorem dX8_set_42 : decode cX8_set 42 = .ok (.invokestatic 35, 3) := by decide +kernel
theorem dX8_set_45 : decode cX8_set 45 = .ok (.ifCond .ne 6, 3) := by decide +kernel
theorem dX8_set_48 : decode cX8_set 48 = .ok (.bipush (-2), 2) := by decide +kernel
theorem dX8_set_50 : decode cX8_set 50 = .ok (.ireturn, 1) := by decide +kernel
theorem dX8_set_51 : decode cX8_set 51 = .ok (.aload_n 0, 1) := by decide +kernel
theorem dX8_set_52 : decode cX8_set 52 = .ok (.invokevirtual 110, 3) := by decide +kernel
theorem dX8_set_55 : decode cX8_set 55 = .ok (.aload_n 0, 1) := by decide +kernel
theorem dX8_set_56 : decode cX8_set 56 = .ok (.getfield 7, 3) := by decide +kernel
theorem dX8_set_59 : decode cX8_set 59 = .ok (.iconst 5, 1) := by decide +kernel
theorem dX8_set_60 : decode cX8_set 60 = .ok (.iload_n 1, 1) := by decide +kernel
theorem dX8_set_61 : decode cX8_set 61 = .ok (.iadd, 1) := by decide +kernel
theorem dX8_set_62 : decode cX8_set 62 = .ok (.iaload, 1) := by decide +kernel
theorem dX8_set_63 : decode cX8_set 63 = .ok (.istore_n 3, 1) := by decide +kernel
theorem dX8_set_64 : decode cX8_set 64 = .ok (.aload_n 0, 1) := by decide +kernel
theorem dX8_set_65 : decode cX8_set 65 = .ok (.getfield 7, 3) := by decide +kernel
theorem dX8_set_68 : decode cX8_set 68 = .ok (.iconst 5, 1) := by decide +kernel
theorem dX8_set_69 : decode cX8_set 69 = .ok (.iload_n 1, 1) := by decide +kernel
theorem dX8_set_70 : decode cX8_set 70 = .ok (.iadd, 1) := by decide +kernel
theorem dX8_set_71 : decode cX8_set 71 = .ok (.iload_n 2, 1) := by decide +kernel
theorem dX8_set_72 : decode cX8_set 72 = .ok (.iastore, 1) := by decide +kernel
theorem dX8_set_73 : decode cX8_set 73 = .ok (.iload_n 3, 1) := by decide +kernel
theorem dX8_set_74 : decode cX8_set 74 = .ok (.ireturn, 1) := by decide +kernel
theorem dX8_append_0 : decode cX8_append 0 = .ok (.iload_n 1, 1) := by decide +kernel
theorem dX8_append_1 : decode cX8_append 1 = .ok (.bipush 32, 2) := by decide +kernel
theorem dX8_append_3 : decode cX8_append 3 = .ok (.bipush 126, 2) := by decide +kernel
theorem dX8_append_5 : decode cX8_append 5 = .ok (.invokestatic 35, 3) := by decide +kernel
theorem dX8_append_8 : decode cX8_append 8 = .ok (.ifCond .ne 6, 3) := by decide +kernel
theorem dX8_append_11 : decode cX8_append 11 = .ok (.bipush (-2), 2) := by decide +kernel
theorem dX8_append_13 : decode cX8_append 13 = .ok (.ireturn, 1) := by decide +kernel
theorem dX8_append_14 : decode cX8_append 14 = .ok (.aload_n 0, 1) := by decide +kernel
theorem dX8_append_15 : decode cX8_append 15 = .ok (.getfield 139, 3) := by decide +kernel
theorem dX8_append_18 : decode cX8_append 18 = .ok (.bipush 60, 2) := by decide +kernel
theorem dX8_append_20 : decode cX8_append 20 = .ok (.if_icmp .ne 6, 3) := by decide +kernel
theorem dX8_append_23 : decode cX8_append 23 = .ok (.bipush (-3), 2) := by decide +kernel
theorem dX8_append_25 : decode cX8_append 25 = .ok (.ireturn, 1) := by decide +kernel
theorem dX8_append_26 : decode cX8_append 26 = .ok (.aload_n 0, 1) := by decide +kernel
theorem dX8_append_27 : decode cX8_append 27 = .ok (.getfield 22, 3) := by decide +kernel
theorem dX8_append_30 : decode cX8_append 30 = .ok (.aload_n 0, 1) := by decide +kernel
theorem dX8_append_31 : decode cX8_append 31 = .ok (.getfield 139, 3) := by decide +kernel
theorem dX8_append_34 : decode cX8_append 34 = .ok (.iload_n 1, 1) := by decide +kernel
theorem dX8_append_35 : decode cX8_append 35 = .ok (.iastore, 1) := by decide +kernel
theorem dX8_append_36 : decode cX8_append 36 = .ok (.aload_n 0, 1) := by decide +kernel
theorem dX8_append_37 : decode cX8_append 37 = .ok (.dup, 1) := by decide +kernel
theorem dX8_append_38 : decode cX8_append 38 = .ok (.getfield 139, 3) := by decide +kernel
theorem dX8_append_41 : decode cX8_append 41 = .ok (.iconst 1, 1) := by decide +kernel
theorem dX8_append_42 : decode cX8_append 42 = .ok (.iadd, 1) := by decide +kernel
theorem dX8_append_43 : decode cX8_append 43 = .ok (.putfield 139, 3) := by decide +kernel
theorem dX8_append_46 : decode cX8_append 46 = .ok (.aload_n 0, 1) := by decide +kernel
theorem dX8_append_47 : decode cX8_append 47 = .ok (.getfield 139, 3) := by decide +kernel
theorem dX8_append_50 : decode cX8_append 50 = .ok (.ireturn, 1) := by decide +kernel
theorem dX8_clearText_0 : decode cX8_clearText 0 = .ok (.aload_n 0, 1) := by decide +kernel
theorem dX8_clearText_1 : decode cX8_clearText 1 = .ok (.getfield 139, 3) := by decide +kernel
theorem dX8_clearText_4 : decode cX8_clearText 4 = .ok (.istore_n 1, 1) := by decide +kernel
theorem dX8_clearText_5 : decode cX8_clearText 5 = .ok (.aload_n 0, 1) := by decide +kernel
theorem dX8_clearText_6 : decode cX8_clearText 6 = .ok (.iconst 0, 1) := by decide +kernel
theorem dX8_clearText_7 : decode cX8_clearText 7 = .ok (.putfield 139, 3) := by decide +kernel
theorem dX8_clearText_10 : decode cX8_clearText 10 = .ok (.iload_n 1, 1) := by decide +kernel
theorem dX8_clearText_11 : decode cX8_clearText 11 = .ok (.ireturn, 1) := by decide +kernel
theorem dX8_isNext_0 : decode cX8_isNext 0 = .ok (.aload_n 0, 1) := by decide +kernel
theorem dX8_isNext_1 : decode cX8_isNext 1 = .ok (.getfield 142, 3) := by decide +kernel
theorem dX8_isNext_4 : decode cX8_isNext 4 = .ok (.aload_n 0, 1) := by decide +kernel
theorem dX8_isNext_5 : decode cX8_isNext 5 = .ok (.getfield 139, 3) := by decide +kernel
theorem dX8_isNext_8 : decode cX8_isNext 8 = .ok (.if_icmp .ge 24, 3) := by decide +kernel
theorem dX8_isNext_11 : decode cX8_isNext 11 = .ok (.aload_n 0, 1) := by decide +kernel
theorem dX8_isNext_12 : decode cX8_isNext 12 = .ok (.getfield 22, 3) := by decide +kernel
theorem dX8_isNext_15 : decode cX8_isNext 15 = .ok (.aload_n 0, 1) := by decide +kernel
theorem dX8_isNext_16 : decode cX8_isNext 16 = .ok (.getfield 142, 3) := by decide +kernel
theorem dX8_isNext_19 : decode cX8_isNext 19 = .ok (.iaload, 1) := by decide +kernel
theorem dX8_isNext_20 : decode cX8_isNext 20 = .ok (.iload_n 1, 1) := by decide +kernel
theorem dX8_isNext_21 : decode cX8_isNext 21 = .ok (.iload_n 2, 1) := by decide +kernel
theorem dX8_isNext_22 : decode cX8_isNext 22 = .ok (.invokestatic 35, 3) := by decide +kernel
theorem dX8_isNext_25 : decode cX8_isNext 25 = .ok (.ifCond .eq 7, 3) := by decide +kernel
theorem dX8_isNext_28 : decode cX8_isNext 28 = .ok (.iconst 1, 1) := by decide +kernel
theorem dX8_isNext_29 : decode cX8_isNext 29 = .ok (.goto 4, 3) := by decide +kernel
theorem dX8_isNext_32 : decode cX8_isNext 32 = .ok (.iconst 0, 1) := by decide +kernel
theorem dX8_isNext_33 : decode cX8_isNext 33 = .ok (.ireturn, 1) := by decide +kernel
theorem dX8_takes_0 : decode cX8_takes 0 = .ok (.aload_n 0, 1) := by decide +kernel
theorem dX8_takes_1 : decode cX8_takes 1 = .ok (.iload_n 1, 1) := by decide +kernel
theorem dX8_takes_2 : decode cX8_takes 2 = .ok (.iload_n 1, 1) := by decide +kernel
theorem dX8_takes_3 : decode cX8_takes 3 = .ok (.invokevirtual 145, 3) := by decide +kernel
theorem dX8_takes_6 : decode cX8_takes 6 = .ok (.istore_n 2, 1) := by decide +kernel
theorem dX8_takes_7 : decode cX8_takes 7 = .ok (.aload_n 0, 1) := by decide +kernel
theorem dX8_takes_8 : decode cX8_takes 8 = .ok (.dup, 1) := by decide +kernel
theorem dX8_takes_9 : decode cX8_takes 9 = .ok (.getfield 142, 3) := by decide +kernel
theorem dX8_takes_12 : decode cX8_takes 12 = .ok (.iload_n 2, 1) := by decide +kernel
theorem dX8_takes_13 : decode cX8_takes 13 = .ok (.ifCond .eq 7, 3) := by decide +kernel
theorem dX8_takes_16 : decode cX8_takes 16 = .ok (.iconst 1, 1) := by decide +kernel
theorem dX8_takes_17 : decode cX8_takes 17 = .ok (.goto 4, 3) := by decide +kernel
theorem dX8_takes_20 : decode cX8_takes 20 = .ok (.iconst 0, 1) := by decide +kernel
theorem dX8_takes_21 : decode cX8_takes 21 = .ok (.iadd, 1) := by decide +kernel
theorem dX8_takes_22 : decode cX8_takes 22 = .ok (.putfield 142, 3) := by decide +kernel
theorem dX8_takes_25 : decode cX8_takes 25 = .ok (.iload_n 2, 1) := by decide +kernel
theorem dX8_takes_26 : decode cX8_takes 26 = .ok (.ireturn, 1) := by decide +kernel
theorem dX8_take_0 : decode cX8_take 0 = .ok (.aload_n 0, 1) := by decide +kernel
theorem dX8_take_1 : decode cX8_take 1 = .ok (.iload_n 2, 1) := by decide +kernel
theorem dX8_take_2 : decode cX8_take 2 = .ok (.iload_n 3, 1) := by decide +kernel
theorem dX8_take_3 : decode cX8_take 3 = .ok (.invokevirtual 145, 3) := by decide +kernel
theorem dX8_take_6 : decode cX8_take 6 = .ok (.istore 4, 2) := by decide +kernel
theorem dX8_take_8 : decode cX8_take 8 = .ok (.aload_n 0, 1) := by decide +kernel
theorem dX8_take_9 : decode cX8_take 9 = .ok (.getfield 25, 3) := by decide +kernel
theorem dX8_take_12 : decode cX8_take 12 = .ok (.iload_n 1, 1) := by decide +kernel
theorem dX8_take_13 : decode cX8_take 13 = .ok (.iload 4, 2) := by decide +kernel
theorem dX8_take_15 : decode cX8_take 15 = .ok (.ifCond .eq 17, 3) := by decide +kernel
theorem dX8_take_18 : decode cX8_take 18 = .ok (.aload_n 0, 1) := by decide +kernel
theorem dX8_take_19 : decode cX8_take 19 = .ok (.getfield 22, 3) := by decide +kernel
theorem dX8_take_22 : decode cX8_take 22 = .ok (.aload_n 0, 1) := by decide +kernel
theorem dX8_take_23 : decode cX8_take 23 = .ok (.getfield 142, 3) := by decide +kernel
theorem dX8_take_26 : decode cX8_take 26 = .ok (.iaload, 1) := by decide +kernel
theorem dX8_take_27 : decode cX8_take 27 = .ok (.iload_n 2, 1) := by decide +kernel
theorem dX8_take_28 : decode cX8_take 28 = .ok (.isub, 1) := by decide +kernel
theorem dX8_take_29 : decode cX8_take 29 = .ok (.goto 4, 3) := by decide +kernel
theorem dX8_take_32 : decode cX8_take 32 = .ok (.iconst 0, 1) := by decide +kernel
theorem dX8_take_33 : decode cX8_take 33 = .ok (.iastore, 1) := by decide +kernel
theorem dX8_take_34 : decode cX8_take 34 = .ok (.aload_n 0, 1) := by decide +kernel
theorem dX8_take_35 : decode cX8_take 35 = .ok (.dup, 1) := by decide +kernel
theorem dX8_take_36 : decode cX8_take 36 = .ok (.getfield 142, 3) := by decide +kernel
theorem dX8_take_39 : decode cX8_take 39 = .ok (.iload 4, 2) := by decide +kernel
theorem dX8_take_41 : decode cX8_take 41 = .ok (.ifCond .eq 7, 3) := by decide +kernel
theorem dX8_take_44 : decode cX8_take 44 = .ok (.iconst 1, 1) := by decide +kernel
theorem dX8_take_45 : decode cX8_take 45 = .ok (.goto 4, 3) := by decide +kernel
theorem dX8_take_48 : decode cX8_take 48 = .ok (.iconst 0, 1) := by decide +kernel
theorem dX8_take_49 : decode cX8_take 49 = .ok (.iadd, 1) := by decide +kernel
theorem dX8_take_50 : decode cX8_take 50 = .ok (.putfield 142, 3) := by decide +kernel
theorem dX8_take_53 : decode cX8_take 53 = .ok (.iload 4, 2) := by decide +kernel
theorem dX8_take_55 : decode cX8_take 55 = .ok (.ireturn, 1) := by decide +kernel
theorem dX8_readCoins_0 : decode cX8_readCoins 0 = .ok (.aload_n 0, 1) := by decide +kernel
theorem dX8_readCoins_1 : decode cX8_readCoins 1 = .ok (.iconst 3, 1) := by decide +kernel
theorem dX8_readCoins_2 : decode cX8_readCoins 2 = .ok (.bipush 48, 2) := by decide +kernel
theorem dX8_readCoins_4 : decode cX8_readCoins 4 = .ok (.bipush 57, 2) := by decide +kernel
theorem dX8_readCoins_6 : decode cX8_readCoins 6 = .ok (.invokevirtual 148, 3) := by decide +kernel
theorem dX8_readCoins_9 : decode cX8_readCoins 9 = .ok (.ifCond .ne 5, 3) := by decide +kernel
theorem dX8_readCoins_12 : decode cX8_readCoins 12 = .ok (.iconst 0, 1) := by decide +kernel
theorem dX8_readCoins_13 : decode cX8_readCoins 13 = .ok (.ireturn, 1) := by decide +kernel
theorem dX8_readCoins_14 : decode cX8_readCoins 14 = .ok (.aload_n 0, 1) := by decide +kernel
theorem dX8_readCoins_15 : decode cX8_readCoins 15 = .ok (.getfield 25, 3) := by decide +kernel
theorem dX8_readCoins_18 : decode cX8_readCoins 18 = .ok (.iconst 3, 1) := by decide +kernel
theorem dX8_readCoins_19 : decode cX8_readCoins 19 = .ok (.iaload, 1) := by decide +kernel
theorem dX8_readCoins_20 : decode cX8_readCoins 20 = .ok (.ifCond .le 52, 3) := by decide +kernel
theorem dX8_readCoins_23 : decode cX8_readCoins 23 = .ok (.aload_n 0, 1) := by decide +kernel
theorem dX8_readCoins_24 : decode cX8_readCoins 24 = .ok (.bipush 48, 2) := by decide +kernel
theorem dX8_readCoins_26 : decode cX8_readCoins 26 = .ok (.bipush 57, 2) := by decide +kernel
theorem dX8_readCoins_28 : decode cX8_readCoins 28 = .ok (.invokevirtual 145, 3) := by decide +kernel
theorem dX8_readCoins_31 : decode cX8_readCoins 31 = .ok (.ifCond .eq 41, 3) := by decide +kernel
theorem dX8_readCoins_34 : decode cX8_readCoins 34 = .ok (.aload_n 0, 1) := by decide +kernel
theorem dX8_readCoins_35 : decode cX8_readCoins 35 = .ok (.getfield 25, 3) := by decide +kernel
theorem dX8_readCoins_38 : decode cX8_readCoins 38 = .ok (.iconst 3, 1) := by decide +kernel
theorem dX8_readCoins_39 : decode cX8_readCoins 39 = .ok (.bipush 10, 2) := by decide +kernel
theorem dX8_readCoins_41 : decode cX8_readCoins 41 = .ok (.aload_n 0, 1) := by decide +kernel
theorem dX8_readCoins_42 : decode cX8_readCoins 42 = .ok (.getfield 25, 3) := by decide +kernel
theorem dX8_readCoins_45 : decode cX8_readCoins 45 = .ok (.iconst 3, 1) := by decide +kernel
theorem dX8_readCoins_46 : decode cX8_readCoins 46 = .ok (.iaload, 1) := by decide +kernel
theorem dX8_readCoins_47 : decode cX8_readCoins 47 = .ok (.imul, 1) := by decide +kernel
theorem dX8_readCoins_48 : decode cX8_readCoins 48 = .ok (.aload_n 0, 1) := by decide +kernel
theorem dX8_readCoins_49 : decode cX8_readCoins 49 = .ok (.getfield 22, 3) := by decide +kernel
theorem dX8_readCoins_52 : decode cX8_readCoins 52 = .ok (.aload_n 0, 1) := by decide +kernel
theorem dX8_readCoins_53 : decode cX8_readCoins 53 = .ok (.getfield 142, 3) := by decide +kernel
theorem dX8_readCoins_56 : decode cX8_readCoins 56 = .ok (.iaload, 1) := by decide +kernel
theorem dX8_readCoins_57 : decode cX8_readCoins 57 = .ok (.iadd, 1) := by decide +kernel
theorem dX8_readCoins_58 : decode cX8_readCoins 58 = .ok (.bipush 48, 2) := by decide +kernel
theorem dX8_readCoins_60 : decode cX8_readCoins 60 = .ok (.isub, 1) := by decide +kernel
theorem dX8_readCoins_61 : decode cX8_readCoins 61 = .ok (.iastore, 1) := by decide +kernel
theorem dX8_readCoins_62 : decode cX8_readCoins 62 = .ok (.aload_n 0, 1) := by decide +kernel
theorem dX8_readCoins_63 : decode cX8_readCoins 63 = .ok (.dup, 1) := by decide +kernel
theorem dX8_readCoins_64 : decode cX8_readCoins 64 = .ok (.getfield 142, 3) := by decide +kernel
theorem dX8_readCoins_67 : decode cX8_readCoins 67 = .ok (.iconst 1, 1) := by decide +kernel
theorem dX8_readCoins_68 : decode cX8_readCoins 68 = .ok (.iadd, 1) := by decide +kernel
theorem dX8_readCoins_69 : decode cX8_readCoins 69 = .ok (.putfield 142, 3) := by decide +kernel
theorem dX8_readCoins_72 : decode cX8_readCoins 72 = .ok (.iconst 1, 1) := by decide +kernel
theorem dX8_readCoins_73 : decode cX8_readCoins 73 = .ok (.ireturn, 1) := by decide +kernel
theorem dX8_readOrder_0 : decode cX8_readOrder 0 = .ok (.aload_n 0, 1) := by decide +kernel
theorem dX8_readOrder_1 : decode cX8_readOrder 1 = .ok (.aload_n 0, 1) := by decide +kernel
theorem dX8_readOrder_2 : decode cX8_readOrder 2 = .ok (.bipush 49, 2) := by decide +kernel
theorem dX8_readOrder_4 : decode cX8_readOrder 4 = .ok (.bipush 54, 2) := by decide +kernel
theorem dX8_readOrder_6 : decode cX8_readOrder 6 = .ok (.invokevirtual 145, 3) := by decide +kernel
theorem dX8_readOrder_9 : decode cX8_readOrder 9 = .ok (.ifCond .eq 18, 3) := by decide +kernel
theorem dX8_readOrder_12 : decode cX8_readOrder 12 = .ok (.aload_n 0, 1) := by decide +kernel
theorem dX8_readOrder_13 : decode cX8_readOrder 13 = .ok (.getfield 22, 3) := by decide +kernel
theorem dX8_readOrder_16 : decode cX8_readOrder 16 = .ok (.aload_n 0, 1) := by decide +kernel
theorem dX8_readOrder_17 : decode cX8_readOrder 17 = .ok (.getfield 142, 3) := by decide +kernel
theorem dX8_readOrder_20 : decode cX8_readOrder 20 = .ok (.iaload, 1) := by decide +kernel
theorem dX8_readOrder_21 : decode cX8_readOrder 21 = .ok (.bipush 48, 2) := by decide +kernel
theorem dX8_readOrder_23 : decode cX8_readOrder 23 = .ok (.isub, 1) := by decide +kernel
theorem dX8_readOrder_24 : decode cX8_readOrder 24 = .ok (.goto 4, 3) := by decide +kernel
theorem dX8_readOrder_27 : decode cX8_readOrder 27 = .ok (.iconst 0, 1) := by decide +kernel
theorem dX8_readOrder_28 : decode cX8_readOrder 28 = .ok (.putfield 151, 3) := by decide +kernel
theorem dX8_readOrder_31 : decode cX8_readOrder 31 = .ok (.aload_n 0, 1) := by decide +kernel
theorem dX8_readOrder_32 : decode cX8_readOrder 32 = .ok (.getfield 151, 3) := by decide +kernel
theorem dX8_readOrder_35 : decode cX8_readOrder 35 = .ok (.ifCond .le 15, 3) := by decide +kernel
theorem dX8_readOrder_38 : decode cX8_readOrder 38 = .ok (.aload_n 0, 1) := by decide +kernel
theorem dX8_readOrder_39 : decode cX8_readOrder 39 = .ok (.dup, 1) := by decide +kernel
theorem dX8_readOrder_40 : decode cX8_readOrder 40 = .ok (.getfield 142, 3) := by decide +kernel
theorem dX8_readOrder_43 : decode cX8_readOrder 43 = .ok (.iconst 1, 1) := by decide +kernel
theorem dX8_readOrder_44 : decode cX8_readOrder 44 = .ok (.iadd, 1) := by decide +kernel
theorem dX8_readOrder_45 : decode cX8_readOrder 45 = .ok (.putfield 142, 3) := by decide +kernel
theorem dX8_readOrder_48 : decode cX8_readOrder 48 = .ok (.iconst 1, 1) := by decide +kernel
theorem dX8_readOrder_49 : decode cX8_readOrder 49 = .ok (.ireturn, 1) := by decide +kernel
theorem dX8_readOrder_50 : decode cX8_readOrder 50 = .ok (.aload_n 0, 1) := by decide +kernel
theorem dX8_readOrder_51 : decode cX8_readOrder 51 = .ok (.bipush 40, 2) := by decide +kernel
theorem dX8_readOrder_53 : decode cX8_readOrder 53 = .ok (.invokevirtual 154, 3) := by decide +kernel
theorem dX8_readOrder_56 : decode cX8_readOrder 56 = .ok (.ifCond .eq 77, 3) := by decide +kernel
theorem dX8_readOrder_59 : decode cX8_readOrder 59 = .ok (.aload_n 0, 1) := by decide +kernel
theorem dX8_readOrder_60 : decode cX8_readOrder 60 = .ok (.iconst 0, 1) := by decide +kernel
theorem dX8_readOrder_61 : decode cX8_readOrder 61 = .ok (.bipush 48, 2) := by decide +kernel
theorem dX8_readOrder_63 : decode cX8_readOrder 63 = .ok (.bipush 51, 2) := by decide +kernel
theorem dX8_readOrder_65 : decode cX8_readOrder 65 = .ok (.invokevirtual 148, 3) := by decide +kernel
theorem dX8_readOrder_68 : decode cX8_readOrder 68 = .ok (.ifCond .eq 65, 3) := by decide +kernel
theorem dX8_readOrder_71 : decode cX8_readOrder 71 = .ok (.aload_n 0, 1) := by decide +kernel
theorem dX8_readOrder_72 : decode cX8_readOrder 72 = .ok (.iconst 1, 1) := by decide +kernel
theorem dX8_readOrder_73 : decode cX8_readOrder 73 = .ok (.bipush 97, 2) := by decide +kernel
theorem dX8_readOrder_75 : decode cX8_readOrder 75 = .ok (.bipush 104, 2) := by decide +kernel
theorem dX8_readOrder_77 : decode cX8_readOrder 77 = .ok (.invokevirtual 148, 3) := by decide +kernel
theorem dX8_readOrder_80 : decode cX8_readOrder 80 = .ok (.ifCond .eq 53, 3) := by decide +kernel
theorem dX8_readOrder_83 : decode cX8_readOrder 83 = .ok (.aload_n 0, 1) := by decide +kernel
theorem dX8_readOrder_84 : decode cX8_readOrder 84 = .ok (.bipush 62, 2) := by decide +kernel
theorem dX8_readOrder_86 : decode cX8_readOrder 86 = .ok (.invokevirtual 154, 3) := by decide +kernel
theorem dX8_readOrder_89 : decode cX8_readOrder 89 = .ok (.ifCond .eq 44, 3) := by decide +kernel
theorem dX8_readOrder_92 : decode cX8_readOrder 92 = .ok (.aload_n 0, 1) := by decide +kernel
theorem dX8_readOrder_93 : decode cX8_readOrder 93 = .ok (.iconst 2, 1) := by decide +kernel
theorem dX8_readOrder_94 : decode cX8_readOrder 94 = .ok (.bipush 48, 2) := by decide +kernel
theorem dX8_readOrder_96 : decode cX8_readOrder 96 = .ok (.bipush 51, 2) := by decide +kernel
theorem dX8_readOrder_98 : decode cX8_readOrder 98 = .ok (.invokevirtual 148, 3) := by decide +kernel
theorem dX8_readOrder_101 : decode cX8_readOrder 101 = .ok (.ifCond .eq 32, 3) := by decide +kernel
theorem dX8_readOrder_104 : decode cX8_readOrder 104 = .ok (.aload_n 0, 1) := by decide +kernel
theorem dX8_readOrder_105 : decode cX8_readOrder 105 = .ok (.bipush 36, 2) := by decide +kernel
theorem dX8_readOrder_107 : decode cX8_readOrder 107 = .ok (.invokevirtual 154, 3) := by decide +kernel
theorem dX8_readOrder_110 : decode cX8_readOrder 110 = .ok (.ifCond .eq 23, 3) := by decide +kernel
theorem dX8_readOrder_113 : decode cX8_readOrder 113 = .ok (.aload_n 0, 1) := by decide +kernel
theorem dX8_readOrder_114 : decode cX8_readOrder 114 = .ok (.invokevirtual 157, 3) := by decide +kernel
theorem dX8_readOrder_117 : decode cX8_readOrder 117 = .ok (.ifCond .eq 16, 3) := by decide +kernel
theorem dX8_readOrder_120 : decode cX8_readOrder 120 = .ok (.aload_n 0, 1) := by decide +kernel
theorem dX8_readOrder_121 : decode cX8_readOrder 121 = .ok (.bipush 41, 2) := by decide +kernel
theorem dX8_readOrder_123 : decode cX8_readOrder 123 = .ok (.invokevirtual 154, 3) := by decide +kernel
theorem dX8_readOrder_126 : decode cX8_readOrder 126 = .ok (.ifCond .eq 7, 3) := by decide +kernel
theorem dX8_readOrder_129 : decode cX8_readOrder 129 = .ok (.iconst 1, 1) := by decide +kernel
theorem dX8_readOrder_130 : decode cX8_readOrder 130 = .ok (.goto 4, 3) := by decide +kernel
theorem dX8_readOrder_133 : decode cX8_readOrder 133 = .ok (.iconst 0, 1) := by decide +kernel
theorem dX8_readOrder_134 : decode cX8_readOrder 134 = .ok (.ireturn, 1) := by decide +kernel
theorem dX8_does_0 : decode cX8_does 0 = .ok (.aload_n 0, 1) := by decide +kernel
theorem dX8_does_1 : decode cX8_does 1 = .ok (.getfield 151, 3) := by decide +kernel
theorem dX8_does_4 : decode cX8_does 4 = .ok (.ifCond .le 31, 3) := by decide +kernel
theorem dX8_does_7 : decode cX8_does 7 = .ok (.aload_n 0, 1) := by decide +kernel
theorem dX8_does_8 : decode cX8_does 8 = .ok (.aload_n 0, 1) := by decide +kernel
theorem dX8_does_9 : decode cX8_does 9 = .ok (.getfield 151, 3) := by decide +kernel
theorem dX8_does_12 : decode cX8_does 12 = .ok (.invokevirtual 116, 3) := by decide +kernel
theorem dX8_does_15 : decode cX8_does 15 = .ok (.ifCond .ne 18, 3) := by decide +kernel
theorem dX8_does_18 : decode cX8_does 18 = .ok (.aload_n 0, 1) := by decide +kernel
theorem dX8_does_19 : decode cX8_does 19 = .ok (.aload_n 0, 1) := by decide +kernel
theorem dX8_does_20 : decode cX8_does 20 = .ok (.getfield 151, 3) := by decide +kernel
theorem dX8_does_23 : decode cX8_does 23 = .ok (.invokevirtual 119, 3) := by decide +kernel
theorem dX8_does_26 : decode cX8_does 26 = .ok (.ifCond .lt 7, 3) := by decide +kernel
theorem dX8_does_29 : decode cX8_does 29 = .ok (.iconst 1, 1) := by decide +kernel
theorem dX8_does_30 : decode cX8_does 30 = .ok (.goto 4, 3) := by decide +kernel
theorem dX8_does_33 : decode cX8_does 33 = .ok (.iconst 0, 1) := by decide +kernel
theorem dX8_does_34 : decode cX8_does 34 = .ok (.ireturn, 1) := by decide +kernel
theorem dX8_does_35 : decode cX8_does 35 = .ok (.aload_n 0, 1) := by decide +kernel
theorem dX8_does_36 : decode cX8_does 36 = .ok (.aload_n 0, 1) := by decide +kernel
theorem dX8_does_37 : decode cX8_does 37 = .ok (.getfield 25, 3) := by decide +kernel
theorem dX8_does_40 : decode cX8_does 40 = .ok (.iconst 0, 1) := by decide +kernel
theorem dX8_does_41 : decode cX8_does 41 = .ok (.iaload, 1) := by decide +kernel
theorem dX8_does_42 : decode cX8_does 42 = .ok (.aload_n 0, 1) := by decide +kernel
theorem dX8_does_43 : decode cX8_does 43 = .ok (.getfield 25, 3) := by decide +kernel
theorem dX8_does_46 : decode cX8_does 46 = .ok (.iconst 1, 1) := by decide +kernel
theorem dX8_does_47 : decode cX8_does 47 = .ok (.iaload, 1) := by decide +kernel
theorem dX8_does_48 : decode cX8_does 48 = .ok (.aload_n 0, 1) := by decide +kernel
theorem dX8_does_49 : decode cX8_does 49 = .ok (.getfield 25, 3) := by decide +kernel
theorem dX8_does_52 : decode cX8_does 52 = .ok (.iconst 2, 1) := by decide +kernel
theorem dX8_does_53 : decode cX8_does 53 = .ok (.iaload, 1) := by decide +kernel
theorem dX8_does_54 : decode cX8_does 54 = .ok (.aload_n 0, 1) := by decide +kernel
theorem dX8_does_55 : decode cX8_does 55 = .ok (.getfield 25, 3) := by decide +kernel
theorem dX8_does_58 : decode cX8_does 58 = .ok (.iconst 3, 1) := by decide +kernel
theorem dX8_does_59 : decode cX8_does 59 = .ok (.iaload, 1) := by decide +kernel
theorem dX8_does_60 : decode cX8_does 60 = .ok (.invokevirtual 129, 3) := by decide +kernel
theorem dX8_does_63 : decode cX8_does 63 = .ok (.ifCond .ne 38, 3) := by decide +kernel
theorem dX8_does_66 : decode cX8_does 66 = .ok (.aload_n 0, 1) := by decide +kernel
theorem dX8_does_67 : decode cX8_does 67 = .ok (.aload_n 0, 1) := by decide +kernel
theorem dX8_does_68 : decode cX8_does 68 = .ok (.getfield 25, 3) := by decide +kernel
theorem dX8_does_71 : decode cX8_does 71 = .ok (.iconst 0, 1) := by decide +kernel
theorem dX8_does_72 : decode cX8_does 72 = .ok (.iaload, 1) := by decide +kernel
theorem dX8_does_73 : decode cX8_does 73 = .ok (.aload_n 0, 1) := by decide +kernel
theorem dX8_does_74 : decode cX8_does 74 = .ok (.getfield 25, 3) := by decide +kernel
theorem dX8_does_77 : decode cX8_does 77 = .ok (.iconst 1, 1) := by decide +kernel
theorem dX8_does_78 : decode cX8_does 78 = .ok (.iaload, 1) := by decide +kernel
theorem dX8_does_79 : decode cX8_does 79 = .ok (.aload_n 0, 1) := by decide +kernel
theorem dX8_does_80 : decode cX8_does 80 = .ok (.getfield 25, 3) := by decide +kernel
theorem dX8_does_83 : decode cX8_does 83 = .ok (.iconst 2, 1) := by decide +kernel
theorem dX8_does_84 : decode cX8_does 84 = .ok (.iaload, 1) := by decide +kernel
theorem dX8_does_85 : decode cX8_does 85 = .ok (.aload_n 0, 1) := by decide +kernel
theorem dX8_does_86 : decode cX8_does 86 = .ok (.getfield 25, 3) := by decide +kernel
theorem dX8_does_89 : decode cX8_does 89 = .ok (.iconst 3, 1) := by decide +kernel
theorem dX8_does_90 : decode cX8_does 90 = .ok (.iaload, 1) := by decide +kernel
theorem dX8_does_91 : decode cX8_does 91 = .ok (.invokevirtual 133, 3) := by decide +kernel
theorem dX8_does_94 : decode cX8_does 94 = .ok (.ifCond .ne 7, 3) := by decide +kernel
theorem dX8_does_97 : decode cX8_does 97 = .ok (.iconst 1, 1) := by decide +kernel
theorem dX8_does_98 : decode cX8_does 98 = .ok (.goto 4, 3) := by decide +kernel
theorem dX8_does_101 : decode cX8_does 101 = .ok (.iconst 0, 1) := by decide +kernel
theorem dX8_does_102 : decode cX8_does 102 = .ok (.istore_n 1, 1) := by decide +kernel
theorem dX8_does_103 : decode cX8_does 103 = .ok (.iload_n 1, 1) := by decide +kernel
theorem dX8_does_104 : decode cX8_does 104 = .ok (.ifCond .eq 38, 3) := by decide +kernel
theorem dX8_does_107 : decode cX8_does 107 = .ok (.aload_n 0, 1) := by decide +kernel
theorem dX8_does_108 : decode cX8_does 108 = .ok (.aload_n 0, 1) := by decide +kernel
theorem dX8_does_109 : decode cX8_does 109 = .ok (.getfield 25, 3) := by decide +kernel
theorem dX8_does_112 : decode cX8_does 112 = .ok (.iconst 0, 1) := by decide +kernel
theorem dX8_does_113 : decode cX8_does 113 = .ok (.iaload, 1) := by decide +kernel
theorem dX8_does_114 : decode cX8_does 114 = .ok (.aload_n 0, 1) := by decide +kernel
theorem dX8_does_115 : decode cX8_does 115 = .ok (.getfield 25, 3) := by decide +kernel
theorem dX8_does_118 : decode cX8_does 118 = .ok (.iconst 1, 1) := by decide +kernel
theorem dX8_does_119 : decode cX8_does 119 = .ok (.iaload, 1) := by decide +kernel
theorem dX8_does_120 : decode cX8_does 120 = .ok (.aload_n 0, 1) := by decide +kernel
theorem dX8_does_121 : decode cX8_does 121 = .ok (.getfield 25, 3) := by decide +kernel
theorem dX8_does_124 : decode cX8_does 124 = .ok (.iconst 2, 1) := by decide +kernel
theorem dX8_does_125 : decode cX8_does 125 = .ok (.iaload, 1) := by decide +kernel
theorem dX8_does_126 : decode cX8_does 126 = .ok (.aload_n 0, 1) := by decide +kernel
theorem dX8_does_127 : decode cX8_does 127 = .ok (.getfield 25, 3) := by decide +kernel
theorem dX8_does_130 : decode cX8_does 130 = .ok (.iconst 3, 1) := by decide +kernel
theorem dX8_does_131 : decode cX8_does 131 = .ok (.iaload, 1) := by decide +kernel
theorem dX8_does_132 : decode cX8_does 132 = .ok (.invokevirtual 136, 3) := by decide +kernel
theorem dX8_does_135 : decode cX8_does 135 = .ok (.ifCond .lt 7, 3) := by decide +kernel
theorem dX8_does_138 : decode cX8_does 138 = .ok (.iconst 1, 1) := by decide +kernel
theorem dX8_does_139 : decode cX8_does 139 = .ok (.goto 4, 3) := by decide +kernel
theorem dX8_does_142 : decode cX8_does 142 = .ok (.iconst 0, 1) := by decide +kernel
theorem dX8_does_143 : decode cX8_does 143 = .ok (.ireturn, 1) := by decide +kernel
theorem dX8_readText_0 : decode cX8_readText 0 = .ok (.aload_n 0, 1) := by decide +kernel
theorem dX8_readText_1 : decode cX8_readText 1 = .ok (.iconst 0, 1) := by decide +kernel
theorem dX8_readText_2 : decode cX8_readText 2 = .ok (.putfield 142, 3) := by decide +kernel
theorem dX8_readText_5 : decode cX8_readText 5 = .ok (.aload_n 0, 1) := by decide +kernel
theorem dX8_readText_6 : decode cX8_readText 6 = .ok (.iconst 0, 1) := by decide +kernel
theorem dX8_readText_7 : decode cX8_readText 7 = .ok (.putfield 160, 3) := by decide +kernel
theorem dX8_readText_10 : decode cX8_readText 10 = .ok (.aload_n 0, 1) := by decide +kernel
theorem dX8_readText_11 : decode cX8_readText 11 = .ok (.invokevirtual 163, 3) := by decide +kernel
theorem dX8_readText_14 : decode cX8_readText 14 = .ok (.istore_n 2, 1) := by decide +kernel
theorem dX8_readText_15 : decode cX8_readText 15 = .ok (.iload_n 2, 1) := by decide +kernel
theorem dX8_readText_16 : decode cX8_readText 16 = .ok (.ifCond .eq 47, 3) := by decide +kernel
theorem dX8_readText_19 : decode cX8_readText 19 = .ok (.iload_n 1, 1) := by decide +kernel
theorem dX8_readText_20 : decode cX8_readText 20 = .ok (.ifCond .eq 12, 3) := by decide +kernel
theorem dX8_readText_23 : decode cX8_readText 23 = .ok (.aload_n 0, 1) := by decide +kernel
theorem dX8_readText_24 : decode cX8_readText 24 = .ok (.invokevirtual 166, 3) := by decide +kernel
theorem dX8_readText_27 : decode cX8_readText 27 = .ok (.ifCond .ne 5, 3) := by decide +kernel
theorem dX8_readText_30 : decode cX8_readText 30 = .ok (.iconst 1, 1) := by decide +kernel
theorem dX8_readText_31 : decode cX8_readText 31 = .ok (.ireturn, 1) := by decide +kernel
theorem dX8_readText_32 : decode cX8_readText 32 = .ok (.aload_n 0, 1) := by decide +kernel
theorem dX8_readText_33 : decode cX8_readText 33 = .ok (.dup, 1) := by decide +kernel
theorem dX8_readText_34 : decode cX8_readText 34 = .ok (.getfield 160, 3) := by decide +kernel
theorem dX8_readText_37 : decode cX8_readText 37 = .ok (.iconst 1, 1) := by decide +kernel
theorem dX8_readText_38 : decode cX8_readText 38 = .ok (.iadd, 1) := by decide +kernel
theorem dX8_readText_39 : decode cX8_readText 39 = .ok (.putfield 160, 3) := by decide +kernel
theorem dX8_readText_42 : decode cX8_readText 42 = .ok (.aload_n 0, 1) := by decide +kernel
theorem dX8_readText_43 : decode cX8_readText 43 = .ok (.getfield 142, 3) := by decide +kernel
theorem dX8_readText_46 : decode cX8_readText 46 = .ok (.aload_n 0, 1) := by decide +kernel
theorem dX8_readText_47 : decode cX8_readText 47 = .ok (.getfield 139, 3) := by decide +kernel
theorem dX8_readText_50 : decode cX8_readText 50 = .ok (.if_icmp .ne 5, 3) := by decide +kernel
theorem dX8_readText_53 : decode cX8_readText 53 = .ok (.iconst 1, 1) := by decide +kernel
theorem dX8_readText_54 : decode cX8_readText 54 = .ok (.ireturn, 1) := by decide +kernel
theorem dX8_readText_55 : decode cX8_readText 55 = .ok (.aload_n 0, 1) := by decide +kernel
theorem dX8_readText_56 : decode cX8_readText 56 = .ok (.invokevirtual 163, 3) := by decide +kernel
theorem dX8_readText_59 : decode cX8_readText 59 = .ok (.istore_n 2, 1) := by decide +kernel
theorem dX8_readText_60 : decode cX8_readText 60 = .ok (.goto (-45), 3) := by decide +kernel
theorem dX8_readText_63 : decode cX8_readText 63 = .ok (.iconst 0, 1) := by decide +kernel
theorem dX8_readText_64 : decode cX8_readText 64 = .ok (.ireturn, 1) := by decide +kernel
theorem dX8_fault_0 : decode cX8_fault 0 = .ok (.aload_n 0, 1) := by decide +kernel
theorem dX8_fault_1 : decode cX8_fault 1 = .ok (.iconst 0, 1) := by decide +kernel
theorem dX8_fault_2 : decode cX8_fault 2 = .ok (.invokevirtual 169, 3) := by decide +kernel
theorem dX8_fault_5 : decode cX8_fault 5 = .ok (.ifCond .eq 8, 3) := by decide +kernel
theorem dX8_fault_8 : decode cX8_fault 8 = .ok (.bipush (-5), 2) := by decide +kernel
theorem dX8_fault_10 : decode cX8_fault 10 = .ok (.goto 7, 3) := by decide +kernel
theorem dX8_fault_13 : decode cX8_fault 13 = .ok (.aload_n 0, 1) := by decide +kernel
theorem dX8_fault_14 : decode cX8_fault 14 = .ok (.getfield 142, 3) := by decide +kernel
theorem dX8_fault_17 : decode cX8_fault 17 = .ok (.ireturn, 1) := by decide +kernel
theorem dX8_run_0 : decode cX8_run 0 = .ok (.aload_n 0, 1) := by decide +kernel
theorem dX8_run_1 : decode cX8_run 1 = .ok (.iconst 0, 1) := by decide +kernel
theorem dX8_run_2 : decode cX8_run 2 = .ok (.invokevirtual 169, 3) := by decide +kernel
theorem dX8_run_5 : decode cX8_run 5 = .ok (.ifCond .ne 11, 3) := by decide +kernel
theorem dX8_run_8 : decode cX8_run 8 = .ok (.bipush (-100), 2) := by decide +kernel
theorem dX8_run_10 : decode cX8_run 10 = .ok (.aload_n 0, 1) := by decide +kernel
theorem dX8_run_11 : decode cX8_run 11 = .ok (.getfield 142, 3) := by decide +kernel
theorem dX8_run_14 : decode cX8_run 14 = .ok (.isub, 1) := by decide +kernel
theorem dX8_run_15 : decode cX8_run 15 = .ok (.ireturn, 1) := by decide +kernel
theorem dX8_run_16 : decode cX8_run 16 = .ok (.aload_n 0, 1) := by decide +kernel
theorem dX8_run_17 : decode cX8_run 17 = .ok (.invokevirtual 110, 3) := by decide +kernel
theorem dX8_run_20 : decode cX8_run 20 = .ok (.aload_n 0, 1) := by decide +kernel
theorem dX8_run_21 : decode cX8_run 21 = .ok (.iconst 1, 1) := by decide +kernel
theorem dX8_run_22 : decode cX8_run 22 = .ok (.invokevirtual 169, 3) := by decide +kernel
theorem dX8_run_25 : decode cX8_run 25 = .ok (.ifCond .eq 10, 3) := by decide +kernel
theorem dX8_run_28 : decode cX8_run 28 = .ok (.aload_n 0, 1) := by decide +kernel
theorem dX8_run_29 : decode cX8_run 29 = .ok (.getfield 160, 3) := by decide +kernel
theorem dX8_run_32 : decode cX8_run 32 = .ok (.goto 4, 3) := by decide +kernel
theorem dX8_run_35 : decode cX8_run 35 = .ok (.iconst 0, 1) := by decide +kernel
theorem dX8_run_36 : decode cX8_run 36 = .ok (.ireturn, 1) := by decide +kernel
theorem dX8_undo_0 : decode cX8_undo 0 = .ok (.aload_n 0, 1) := by decide +kernel
theorem dX8_undo_1 : decode cX8_undo 1 = .ok (.getfield 50, 3) := by decide +kernel
theorem dX8_undo_4 : decode cX8_undo 4 = .ok (.ifCond .ne 6, 3) := by decide +kernel
theorem dX8_undo_7 : decode cX8_undo 7 = .ok (.bipush (-5), 2) := by decide +kernel
theorem dX8_undo_9 : decode cX8_undo 9 = .ok (.ireturn, 1) := by decide +kernel
theorem dX8_undo_10 : decode cX8_undo 10 = .ok (.aload_n 0, 1) := by decide +kernel
theorem dX8_undo_11 : decode cX8_undo 11 = .ok (.dup, 1) := by decide +kernel
theorem dX8_undo_12 : decode cX8_undo 12 = .ok (.getfield 50, 3) := by decide +kernel
theorem dX8_undo_15 : decode cX8_undo 15 = .ok (.iconst 1, 1) := by decide +kernel
theorem dX8_undo_16 : decode cX8_undo 16 = .ok (.isub, 1) := by decide +kernel
theorem dX8_undo_17 : decode cX8_undo 17 = .ok (.putfield 50, 3) := by decide +kernel
theorem dX8_undo_20 : decode cX8_undo 20 = .ok (.aload_n 0, 1) := by decide +kernel
theorem dX8_undo_21 : decode cX8_undo 21 = .ok (.getfield 13, 3) := by decide +kernel
theorem dX8_undo_24 : decode cX8_undo 24 = .ok (.sipush 392, 3) := by decide +kernel
theorem dX8_undo_27 : decode cX8_undo 27 = .ok (.aload_n 0, 1) := by decide +kernel
theorem dX8_undo_28 : decode cX8_undo 28 = .ok (.getfield 50, 3) := by decide +kernel
theorem dX8_undo_31 : decode cX8_undo 31 = .ok (.imul, 1) := by decide +kernel
theorem dX8_undo_32 : decode cX8_undo 32 = .ok (.aload_n 0, 1) := by decide +kernel
theorem dX8_undo_33 : decode cX8_undo 33 = .ok (.getfield 7, 3) := by decide +kernel
theorem dX8_undo_36 : decode cX8_undo 36 = .ok (.iconst 0, 1) := by decide +kernel
theorem dX8_undo_37 : decode cX8_undo 37 = .ok (.invokestatic 54, 3) := by decide +kernel
theorem dX8_undo_40 : decode cX8_undo 40 = .ok (.aload_n 0, 1) := by decide +kernel
theorem dX8_undo_41 : decode cX8_undo 41 = .ok (.getfield 50, 3) := by decide +kernel
theorem dX8_undo_44 : decode cX8_undo 44 = .ok (.ireturn, 1) := by decide +kernel
theorem dX8_save_0 : decode cX8_save 0 = .ok (.aload_n 0, 1) := by decide +kernel
theorem dX8_save_1 : decode cX8_save 1 = .ok (.getfield 7, 3) := by decide +kernel
theorem dX8_save_4 : decode cX8_save 4 = .ok (.iconst 0, 1) := by decide +kernel
theorem dX8_save_5 : decode cX8_save 5 = .ok (.aload_n 0, 1) := by decide +kernel
theorem dX8_save_6 : decode cX8_save 6 = .ok (.getfield 16, 3) := by decide +kernel
theorem dX8_save_9 : decode cX8_save 9 = .ok (.iconst 0, 1) := by decide +kernel
theorem dX8_save_10 : decode cX8_save 10 = .ok (.invokestatic 54, 3) := by decide +kernel
theorem dX8_save_13 : decode cX8_save 13 = .ok (.aload_n 0, 1) := by decide +kernel
theorem dX8_save_14 : decode cX8_save 14 = .ok (.iconst 1, 1) := by decide +kernel
theorem dX8_save_15 : decode cX8_save 15 = .ok (.putfield 173, 3) := by decide +kernel
theorem dX8_save_18 : decode cX8_save 18 = .ok (.aload_n 0, 1) := by decide +kernel
theorem dX8_save_19 : decode cX8_save 19 = .ok (.getfield 7, 3) := by decide +kernel
theorem dX8_save_22 : decode cX8_save 22 = .ok (.iconst 0, 1) := by decide +kernel
theorem dX8_save_23 : decode cX8_save 23 = .ok (.iaload, 1) := by decide +kernel
theorem dX8_save_24 : decode cX8_save 24 = .ok (.ireturn, 1) := by decide +kernel
theorem dX8_restore_0 : decode cX8_restore 0 = .ok (.aload_n 0, 1) := by decide +kernel
theorem dX8_restore_1 : decode cX8_restore 1 = .ok (.getfield 173, 3) := by decide +kernel
theorem dX8_restore_4 : decode cX8_restore 4 = .ok (.ifCond .ne 6, 3) := by decide +kernel
theorem dX8_restore_7 : decode cX8_restore 7 = .ok (.bipush (-4), 2) := by decide +kernel
theorem dX8_restore_9 : decode cX8_restore 9 = .ok (.ireturn, 1) := by decide +kernel
theorem dX8_restore_10 : decode cX8_restore 10 = .ok (.aload_n 0, 1) := by decide +kernel
theorem dX8_restore_11 : decode cX8_restore 11 = .ok (.invokevirtual 110, 3) := by decide +kernel
theorem dX8_restore_14 : decode cX8_restore 14 = .ok (.aload_n 0, 1) := by decide +kernel
theorem dX8_restore_15 : decode cX8_restore 15 = .ok (.getfield 16, 3) := by decide +kernel
theorem dX8_restore_18 : decode cX8_restore 18 = .ok (.iconst 0, 1) := by decide +kernel
theorem dX8_restore_19 : decode cX8_restore 19 = .ok (.aload_n 0, 1) := by decide +kernel
theorem dX8_restore_20 : decode cX8_restore 20 = .ok (.getfield 7, 3) := by decide +kernel
theorem dX8_restore_23 : decode cX8_restore 23 = .ok (.iconst 0, 1) := by decide +kernel
theorem dX8_restore_24 : decode cX8_restore 24 = .ok (.invokestatic 54, 3) := by decide +kernel
theorem dX8_restore_27 : decode cX8_restore 27 = .ok (.aload_n 0, 1) := by decide +kernel
theorem dX8_restore_28 : decode cX8_restore 28 = .ok (.getfield 7, 3) := by decide +kernel
theorem dX8_restore_31 : decode cX8_restore 31 = .ok (.iconst 0, 1) := by decide +kernel
theorem dX8_restore_32 : decode cX8_restore 32 = .ok (.iaload, 1) := by decide +kernel
theorem dX8_restore_33 : decode cX8_restore 33 = .ok (.ireturn, 1) := by decide +kernel
theorem dX8_player_0 : decode cX8_player 0 = .ok (.iload_n 1, 1) := by decide +kernel
theorem dX8_player_1 : decode cX8_player 1 = .ok (.invokestatic 39, 3) := by decide +kernel
theorem dX8_player_4 : decode cX8_player 4 = .ok (.ifCond .ne 5, 3) := by decide +kernel
theorem dX8_player_7 : decode cX8_player 7 = .ok (.iconst (-1), 1) := by decide +kernel
theorem dX8_player_8 : decode cX8_player 8 = .ok (.ireturn, 1) := by decide +kernel
theorem dX8_player_9 : decode cX8_player 9 = .ok (.iload_n 2, 1) := by decide +kernel
theorem dX8_player_10 : decode cX8_player 10 = .ok (.tableswitch 117 0 7 #[46, 53, 64, 71, 77, 83, 103, 110], 46) := by decide +kernel
theorem dX8_player_56 : decode cX8_player 56 = .ok (.aload_n 0, 1) := by decide +kernel
theorem dX8_player_57 : decode cX8_player 57 = .ok (.iload_n 1, 1) := by decide +kernel
theorem dX8_player_58 : decode cX8_player 58 = .ok (.iconst 0, 1) := by decide +kernel
theorem dX8_player_59 : decode cX8_player 59 = .ok (.invokevirtual 43, 3) := by decide +kernel
theorem dX8_player_62 : decode cX8_player 62 = .ok (.ireturn, 1) := by decide +kernel
theorem dX8_player_63 : decode cX8_player 63 = .ok (.aload_n 0, 1) := by decide +kernel
theorem dX8_player_64 : decode cX8_player 64 = .ok (.iload_n 1, 1) := by decide +kernel
theorem dX8_player_65 : decode cX8_player 65 = .ok (.iconst 1, 1) := by decide +kernel
theorem dX8_player_66 : decode cX8_player 66 = .ok (.invokevirtual 43, 3) := by decide +kernel
theorem dX8_player_69 : decode cX8_player 69 = .ok (.sipush 1000, 3) := by decide +kernel
theorem dX8_player_72 : decode cX8_player 72 = .ok (.iadd, 1) := by decide +kernel
theorem dX8_player_73 : decode cX8_player 73 = .ok (.ireturn, 1) := by decide +kernel
theorem dX8_player_74 : decode cX8_player 74 = .ok (.aload_n 0, 1) := by decide +kernel
theorem dX8_player_75 : decode cX8_player 75 = .ok (.iload_n 1, 1) := by decide +kernel
theorem dX8_player_76 : decode cX8_player 76 = .ok (.iconst 5, 1) := by decide +kernel
theorem dX8_player_77 : decode cX8_player 77 = .ok (.invokevirtual 43, 3) := by decide +kernel
theorem dX8_player_80 : decode cX8_player 80 = .ok (.ireturn, 1) := by decide +kernel
theorem dX8_player_81 : decode cX8_player 81 = .ok (.aload_n 0, 1) := by decide +kernel
theorem dX8_player_82 : decode cX8_player 82 = .ok (.iload_n 1, 1) := by decide +kernel
theorem dX8_player_83 : decode cX8_player 83 = .ok (.invokevirtual 61, 3) := by decide +kernel
theorem dX8_player_86 : decode cX8_player 86 = .ok (.ireturn, 1) := by decide +kernel
theorem dX8_player_87 : decode cX8_player 87 = .ok (.aload_n 0, 1) := by decide +kernel
theorem dX8_player_88 : decode cX8_player 88 = .ok (.iload_n 1, 1) := by decide +kernel
theorem dX8_player_89 : decode cX8_player 89 = .ok (.invokevirtual 79, 3) := by decide +kernel
theorem dX8_player_92 : decode cX8_player 92 = .ok (.ireturn, 1) := by decide +kernel
theorem dX8_player_93 : decode cX8_player 93 = .ok (.aload_n 0, 1) := by decide +kernel
theorem dX8_player_94 : decode cX8_player 94 = .ok (.iload_n 1, 1) := by decide +kernel
theorem dX8_player_95 : decode cX8_player 95 = .ok (.invokevirtual 96, 3) := by decide +kernel
theorem dX8_player_98 : decode cX8_player 98 = .ok (.ifCond .eq 8, 3) := by decide +kernel
theorem dX8_player_101 : decode cX8_player 101 = .ok (.bipush (-5), 2) := by decide +kernel
theorem dX8_player_103 : decode cX8_player 103 = .ok (.goto 9, 3) := by decide +kernel
theorem dX8_player_106 : decode cX8_player 106 = .ok (.aload_n 0, 1) := by decide +kernel
theorem dX8_player_107 : decode cX8_player 107 = .ok (.iload_n 1, 1) := by decide +kernel
theorem dX8_player_108 : decode cX8_player 108 = .ok (.iconst 2, 1) := by decide +kernel
theorem dX8_player_109 : decode cX8_player 109 = .ok (.invokevirtual 43, 3) := by decide +kernel
theorem dX8_player_112 : decode cX8_player 112 = .ok (.ireturn, 1) := by decide +kernel
theorem dX8_player_113 : decode cX8_player 113 = .ok (.aload_n 0, 1) := by decide +kernel
theorem dX8_player_114 : decode cX8_player 114 = .ok (.iload_n 1, 1) := by decide +kernel
theorem dX8_player_115 : decode cX8_player 115 = .ok (.iconst 3, 1) := by decide +kernel
theorem dX8_player_116 : decode cX8_player 116 = .ok (.invokevirtual 43, 3) := by decide +kernel
theorem dX8_player_119 : decode cX8_player 119 = .ok (.ireturn, 1) := by decide +kernel
theorem dX8_player_120 : decode cX8_player 120 = .ok (.aload_n 0, 1) := by decide +kernel
theorem dX8_player_121 : decode cX8_player 121 = .ok (.iload_n 1, 1) := by decide +kernel
theorem dX8_player_122 : decode cX8_player 122 = .ok (.iconst 4, 1) := by decide +kernel
theorem dX8_player_123 : decode cX8_player 123 = .ok (.invokevirtual 43, 3) := by decide +kernel
theorem dX8_player_126 : decode cX8_player 126 = .ok (.ireturn, 1) := by decide +kernel
theorem dX8_player_127 : decode cX8_player 127 = .ok (.bipush (-2), 2) := by decide +kernel
theorem dX8_player_129 : decode cX8_player 129 = .ok (.ireturn, 1) := by decide +kernel
theorem dX8_bite_0 : decode cX8_bite 0 = .ok (.aload_n 0, 1) := by decide +kernel
theorem dX8_bite_1 : decode cX8_bite 1 = .ok (.iload_n 1, 1) := by decide +kernel
theorem dX8_bite_2 : decode cX8_bite 2 = .ok (.iload_n 2, 1) := by decide +kernel
theorem dX8_bite_3 : decode cX8_bite 3 = .ok (.invokevirtual 103, 3) := by decide +kernel
theorem dX8_bite_6 : decode cX8_bite 6 = .ok (.ifCond .ne 5, 3) := by decide +kernel
theorem dX8_bite_9 : decode cX8_bite 9 = .ok (.iconst (-1), 1) := by decide +kernel
theorem dX8_bite_10 : decode cX8_bite 10 = .ok (.ireturn, 1) := by decide +kernel
theorem dX8_bite_11 : decode cX8_bite 11 = .ok (.iload_n 3, 1) := by decide +kernel
theorem dX8_bite_12 : decode cX8_bite 12 = .ok (.iconst 0, 1) := by decide +kernel
theorem dX8_bite_13 : decode cX8_bite 13 = .ok (.iconst 3, 1) := by decide +kernel
theorem dX8_bite_14 : decode cX8_bite 14 = .ok (.invokestatic 35, 3) := by decide +kernel
theorem dX8_bite_17 : decode cX8_bite 17 = .ok (.ifCond .eq 18, 3) := by decide +kernel
theorem dX8_bite_20 : decode cX8_bite 20 = .ok (.aload_n 0, 1) := by decide +kernel
theorem dX8_bite_21 : decode cX8_bite 21 = .ok (.getfield 7, 3) := by decide +kernel
theorem dX8_bite_24 : decode cX8_bite 24 = .ok (.iload_n 1, 1) := by decide +kernel
theorem dX8_bite_25 : decode cX8_bite 25 = .ok (.iload_n 2, 1) := by decide +kernel
theorem dX8_bite_26 : decode cX8_bite 26 = .ok (.invokestatic 58, 3) := by decide +kernel
theorem dX8_bite_29 : decode cX8_bite 29 = .ok (.iload_n 3, 1) := by decide +kernel
theorem dX8_bite_30 : decode cX8_bite 30 = .ok (.iadd, 1) := by decide +kernel
theorem dX8_bite_31 : decode cX8_bite 31 = .ok (.iaload, 1) := by decide +kernel
theorem dX8_bite_32 : decode cX8_bite 32 = .ok (.goto 5, 3) := by decide +kernel
theorem dX8_bite_35 : decode cX8_bite 35 = .ok (.bipush (-2), 2) := by decide +kernel
theorem dX8_bite_37 : decode cX8_bite 37 = .ok (.ireturn, 1) := by decide +kernel
theorem dX8_snakeOf_0 : decode cX8_snakeOf 0 = .ok (.aload_n 0, 1) := by decide +kernel
theorem dX8_snakeOf_1 : decode cX8_snakeOf 1 = .ok (.iload_n 1, 1) := by decide +kernel
theorem dX8_snakeOf_2 : decode cX8_snakeOf 2 = .ok (.invokevirtual 113, 3) := by decide +kernel
theorem dX8_snakeOf_5 : decode cX8_snakeOf 5 = .ok (.ifCond .ne 5, 3) := by decide +kernel
theorem dX8_snakeOf_8 : decode cX8_snakeOf 8 = .ok (.iconst (-1), 1) := by decide +kernel
theorem dX8_snakeOf_9 : decode cX8_snakeOf 9 = .ok (.ireturn, 1) := by decide +kernel
theorem dX8_snakeOf_10 : decode cX8_snakeOf 10 = .ok (.iload_n 2, 1) := by decide +kernel
theorem dX8_snakeOf_11 : decode cX8_snakeOf 11 = .ok (.iconst 0, 1) := by decide +kernel
theorem dX8_snakeOf_12 : decode cX8_snakeOf 12 = .ok (.iconst 3, 1) := by decide +kernel
theorem dX8_snakeOf_13 : decode cX8_snakeOf 13 = .ok (.invokestatic 35, 3) := by decide +kernel
theorem dX8_snakeOf_16 : decode cX8_snakeOf 16 = .ok (.ifCond .eq 12, 3) := by decide +kernel
theorem dX8_snakeOf_19 : decode cX8_snakeOf 19 = .ok (.aload_n 0, 1) := by decide +kernel
theorem dX8_snakeOf_20 : decode cX8_snakeOf 20 = .ok (.iload_n 1, 1) := by decide +kernel
theorem dX8_snakeOf_21 : decode cX8_snakeOf 21 = .ok (.iload_n 2, 1) := by decide +kernel
theorem dX8_snakeOf_22 : decode cX8_snakeOf 22 = .ok (.invokevirtual 47, 3) := by decide +kernel
theorem dX8_snakeOf_25 : decode cX8_snakeOf 25 = .ok (.goto 5, 3) := by decide +kernel
theorem dX8_snakeOf_28 : decode cX8_snakeOf 28 = .ok (.bipush (-2), 2) := by decide +kernel
theorem dX8_snakeOf_30 : decode cX8_snakeOf 30 = .ok (.ireturn, 1) := by decide +kernel
theorem dX8_tailsAt_0 : decode cX8_tailsAt 0 = .ok (.iconst 0, 1) := by decide +kernel
theorem dX8_tailsAt_1 : decode cX8_tailsAt 1 = .ok (.istore_n 2, 1) := by decide +kernel
theorem dX8_tailsAt_2 : decode cX8_tailsAt 2 = .ok (.iconst 0, 1) := by decide +kernel
theorem dX8_tailsAt_3 : decode cX8_tailsAt 3 = .ok (.istore_n 3, 1) := by decide +kernel
theorem dX8_tailsAt_4 : decode cX8_tailsAt 4 = .ok (.iload_n 3, 1) := by decide +kernel
theorem dX8_tailsAt_5 : decode cX8_tailsAt 5 = .ok (.bipush 10, 2) := by decide +kernel
theorem dX8_tailsAt_7 : decode cX8_tailsAt 7 = .ok (.if_icmp .ge 35, 3) := by decide +kernel
theorem dX8_tailsAt_10 : decode cX8_tailsAt 10 = .ok (.iload_n 2, 1) := by decide +kernel
theorem dX8_tailsAt_11 : decode cX8_tailsAt 11 = .ok (.aload_n 0, 1) := by decide +kernel
theorem dX8_tailsAt_12 : decode cX8_tailsAt 12 = .ok (.iload_n 3, 1) := by decide +kernel
theorem dX8_tailsAt_13 : decode cX8_tailsAt 13 = .ok (.invokevirtual 113, 3) := by decide +kernel
theorem dX8_tailsAt_16 : decode cX8_tailsAt 16 = .ok (.ifCond .eq 17, 3) := by decide +kernel
theorem dX8_tailsAt_19 : decode cX8_tailsAt 19 = .ok (.aload_n 0, 1) := by decide +kernel
theorem dX8_tailsAt_20 : decode cX8_tailsAt 20 = .ok (.iload_n 3, 1) := by decide +kernel
theorem dX8_tailsAt_21 : decode cX8_tailsAt 21 = .ok (.iconst 1, 1) := by decide +kernel
theorem dX8_tailsAt_22 : decode cX8_tailsAt 22 = .ok (.invokevirtual 47, 3) := by decide +kernel
theorem dX8_tailsAt_25 : decode cX8_tailsAt 25 = .ok (.iload_n 1, 1) := by decide +kernel
theorem dX8_tailsAt_26 : decode cX8_tailsAt 26 = .ok (.if_icmp .ne 7, 3) := by decide +kernel
theorem dX8_tailsAt_29 : decode cX8_tailsAt 29 = .ok (.iconst 1, 1) := by decide +kernel
theorem dX8_tailsAt_30 : decode cX8_tailsAt 30 = .ok (.goto 4, 3) := by decide +kernel
theorem dX8_tailsAt_33 : decode cX8_tailsAt 33 = .ok (.iconst 0, 1) := by decide +kernel
theorem dX8_tailsAt_34 : decode cX8_tailsAt 34 = .ok (.iadd, 1) := by decide +kernel
theorem dX8_tailsAt_35 : decode cX8_tailsAt 35 = .ok (.istore_n 2, 1) := by decide +kernel
theorem dX8_tailsAt_36 : decode cX8_tailsAt 36 = .ok (.iinc 3 1, 3) := by decide +kernel
theorem dX8_tailsAt_39 : decode cX8_tailsAt 39 = .ok (.goto (-35), 3) := by decide +kernel
theorem dX8_tailsAt_42 : decode cX8_tailsAt 42 = .ok (.iload_n 2, 1) := by decide +kernel
theorem dX8_tailsAt_43 : decode cX8_tailsAt 43 = .ok (.ireturn, 1) := by decide +kernel
theorem dX8_square_0 : decode cX8_square 0 = .ok (.iload_n 1, 1) := by decide +kernel
theorem dX8_square_1 : decode cX8_square 1 = .ok (.iconst 0, 1) := by decide +kernel
theorem dX8_square_2 : decode cX8_square 2 = .ok (.bipush 60, 2) := by decide +kernel
theorem dX8_square_4 : decode cX8_square 4 = .ok (.invokestatic 35, 3) := by decide +kernel
theorem dX8_square_7 : decode cX8_square 7 = .ok (.ifCond .eq 12, 3) := by decide +kernel
theorem dX8_square_10 : decode cX8_square 10 = .ok (.iload_n 2, 1) := by decide +kernel
theorem dX8_square_11 : decode cX8_square 11 = .ok (.iconst 0, 1) := by decide +kernel
theorem dX8_square_12 : decode cX8_square 12 = .ok (.iconst 2, 1) := by decide +kernel
theorem dX8_square_13 : decode cX8_square 13 = .ok (.invokestatic 35, 3) := by decide +kernel
theorem dX8_square_16 : decode cX8_square 16 = .ok (.ifCond .ne 6, 3) := by decide +kernel
theorem dX8_square_19 : decode cX8_square 19 = .ok (.bipush (-2), 2) := by decide +kernel
theorem dX8_square_21 : decode cX8_square 21 = .ok (.ireturn, 1) := by decide +kernel
theorem dX8_square_22 : decode cX8_square 22 = .ok (.iload_n 2, 1) := by decide +kernel
theorem dX8_square_23 : decode cX8_square 23 = .ok (.ifCond .ne 11, 3) := by decide +kernel
theorem dX8_square_26 : decode cX8_square 26 = .ok (.aload_n 0, 1) := by decide +kernel
theorem dX8_square_27 : decode cX8_square 27 = .ok (.iload_n 1, 1) := by decide +kernel
theorem dX8_square_28 : decode cX8_square 28 = .ok (.invokevirtual 68, 3) := by decide +kernel
theorem dX8_square_31 : decode cX8_square 31 = .ok (.goto 21, 3) := by decide +kernel
theorem dX8_square_34 : decode cX8_square 34 = .ok (.iload_n 2, 1) := by decide +kernel
theorem dX8_square_35 : decode cX8_square 35 = .ok (.iconst 1, 1) := by decide +kernel
theorem dX8_square_36 : decode cX8_square 36 = .ok (.if_icmp .ne 11, 3) := by decide +kernel
theorem dX8_square_39 : decode cX8_square 39 = .ok (.aload_n 0, 1) := by decide +kernel
theorem dX8_square_40 : decode cX8_square 40 = .ok (.iload_n 1, 1) := by decide +kernel
theorem dX8_square_41 : decode cX8_square 41 = .ok (.invokevirtual 65, 3) := by decide +kernel
theorem dX8_square_44 : decode cX8_square 44 = .ok (.goto 8, 3) := by decide +kernel
theorem dX8_square_47 : decode cX8_square 47 = .ok (.aload_n 0, 1) := by decide +kernel
theorem dX8_square_48 : decode cX8_square 48 = .ok (.iload_n 1, 1) := by decide +kernel
theorem dX8_square_49 : decode cX8_square 49 = .ok (.invokevirtual 177, 3) := by decide +kernel
theorem dX8_square_52 : decode cX8_square 52 = .ok (.ireturn, 1) := by decide +kernel
theorem dX8_sumOf_0 : decode cX8_sumOf 0 = .ok (.iconst 0, 1) := by decide +kernel
theorem dX8_sumOf_1 : decode cX8_sumOf 1 = .ok (.istore_n 2, 1) := by decide +kernel
theorem dX8_sumOf_2 : decode cX8_sumOf 2 = .ok (.iconst 0, 1) := by decide +kernel
theorem dX8_sumOf_3 : decode cX8_sumOf 3 = .ok (.istore_n 3, 1) := by decide +kernel
theorem dX8_sumOf_4 : decode cX8_sumOf 4 = .ok (.iload_n 3, 1) := by decide +kernel
theorem dX8_sumOf_5 : decode cX8_sumOf 5 = .ok (.iconst 4, 1) := by decide +kernel
theorem dX8_sumOf_6 : decode cX8_sumOf 6 = .ok (.if_icmp .ge 18, 3) := by decide +kernel
theorem dX8_sumOf_9 : decode cX8_sumOf 9 = .ok (.iload_n 2, 1) := by decide +kernel
theorem dX8_sumOf_10 : decode cX8_sumOf 10 = .ok (.aload_n 0, 1) := by decide +kernel
theorem dX8_sumOf_11 : decode cX8_sumOf 11 = .ok (.iload_n 3, 1) := by decide +kernel
theorem dX8_sumOf_12 : decode cX8_sumOf 12 = .ok (.iload_n 1, 1) := by decide +kernel
theorem dX8_sumOf_13 : decode cX8_sumOf 13 = .ok (.invokevirtual 43, 3) := by decide +kernel
theorem dX8_sumOf_16 : decode cX8_sumOf 16 = .ok (.iadd, 1) := by decide +kernel
theorem dX8_sumOf_17 : decode cX8_sumOf 17 = .ok (.istore_n 2, 1) := by decide +kernel
theorem dX8_sumOf_18 : decode cX8_sumOf 18 = .ok (.iinc 3 1, 3) := by decide +kernel
theorem dX8_sumOf_21 : decode cX8_sumOf 21 = .ok (.goto (-17), 3) := by decide +kernel
theorem dX8_sumOf_24 : decode cX8_sumOf 24 = .ok (.iload_n 2, 1) := by decide +kernel
theorem dX8_sumOf_25 : decode cX8_sumOf 25 = .ok (.ireturn, 1) := by decide +kernel
theorem dX8_count_0 : decode cX8_count 0 = .ok (.iload_n 1, 1) := by decide +kernel
theorem dX8_count_1 : decode cX8_count 1 = .ok (.tableswitch 155 0 12 #[67, 74, 93, 102, 107, 113, 120, 127, 133, 133, 133, 145, 150], 67) := by decide +kernel
theorem dX8_count_68 : decode cX8_count 68 = .ok (.aload_n 0, 1) := by decide +kernel
theorem dX8_count_69 : decode cX8_count 69 = .ok (.getfield 7, 3) := by decide +kernel
theorem dX8_count_72 : decode cX8_count 72 = .ok (.iconst 0, 1) := by decide +kernel
theorem dX8_count_73 : decode cX8_count 73 = .ok (.iaload, 1) := by decide +kernel
theorem dX8_count_74 : decode cX8_count 74 = .ok (.ireturn, 1) := by decide +kernel
theorem dX8_count_75 : decode cX8_count 75 = .ok (.aload_n 0, 1) := by decide +kernel
theorem dX8_count_76 : decode cX8_count 76 = .ok (.invokevirtual 92, 3) := by decide +kernel
theorem dX8_count_79 : decode cX8_count 79 = .ok (.ifCond .eq 8, 3) := by decide +kernel
theorem dX8_count_82 : decode cX8_count 82 = .ok (.bipush (-5), 2) := by decide +kernel
theorem dX8_count_84 : decode cX8_count 84 = .ok (.goto 9, 3) := by decide +kernel
theorem dX8_count_87 : decode cX8_count 87 = .ok (.aload_n 0, 1) := by decide +kernel
theorem dX8_count_88 : decode cX8_count 88 = .ok (.getfield 7, 3) := by decide +kernel
theorem dX8_count_91 : decode cX8_count 91 = .ok (.iconst 1, 1) := by decide +kernel
theorem dX8_count_92 : decode cX8_count 92 = .ok (.iaload, 1) := by decide +kernel
theorem dX8_count_93 : decode cX8_count 93 = .ok (.ireturn, 1) := by decide +kernel
theorem dX8_count_94 : decode cX8_count 94 = .ok (.iconst 4, 1) := by decide +kernel
theorem dX8_count_95 : decode cX8_count 95 = .ok (.aload_n 0, 1) := by decide +kernel
theorem dX8_count_96 : decode cX8_count 96 = .ok (.getfield 7, 3) := by decide +kernel
theorem dX8_count_99 : decode cX8_count 99 = .ok (.iconst 4, 1) := by decide +kernel
theorem dX8_count_100 : decode cX8_count 100 = .ok (.iaload, 1) := by decide +kernel
theorem dX8_count_101 : decode cX8_count 101 = .ok (.isub, 1) := by decide +kernel
theorem dX8_count_102 : decode cX8_count 102 = .ok (.ireturn, 1) := by decide +kernel
theorem dX8_count_103 : decode cX8_count 103 = .ok (.aload_n 0, 1) := by decide +kernel
theorem dX8_count_104 : decode cX8_count 104 = .ok (.invokevirtual 106, 3) := by decide +kernel
theorem dX8_count_107 : decode cX8_count 107 = .ok (.ireturn, 1) := by decide +kernel
theorem dX8_count_108 : decode cX8_count 108 = .ok (.aload_n 0, 1) := by decide +kernel
theorem dX8_count_109 : decode cX8_count 109 = .ok (.iconst 5, 1) := by decide +kernel
theorem dX8_count_110 : decode cX8_count 110 = .ok (.invokevirtual 180, 3) := by decide +kernel
theorem dX8_count_113 : decode cX8_count 113 = .ok (.ireturn, 1) := by decide +kernel
theorem dX8_count_114 : decode cX8_count 114 = .ok (.aload_n 0, 1) := by decide +kernel
theorem dX8_count_115 : decode cX8_count 115 = .ok (.getfield 7, 3) := by decide +kernel
theorem dX8_count_118 : decode cX8_count 118 = .ok (.iconst 2, 1) := by decide +kernel
theorem dX8_count_119 : decode cX8_count 119 = .ok (.iaload, 1) := by decide +kernel
theorem dX8_count_120 : decode cX8_count 120 = .ok (.ireturn, 1) := by decide +kernel
theorem dX8_count_121 : decode cX8_count 121 = .ok (.aload_n 0, 1) := by decide +kernel
theorem dX8_count_122 : decode cX8_count 122 = .ok (.getfield 7, 3) := by decide +kernel
theorem dX8_count_125 : decode cX8_count 125 = .ok (.iconst 3, 1) := by decide +kernel
theorem dX8_count_126 : decode cX8_count 126 = .ok (.iaload, 1) := by decide +kernel
theorem dX8_count_127 : decode cX8_count 127 = .ok (.ireturn, 1) := by decide +kernel
theorem dX8_count_128 : decode cX8_count 128 = .ok (.aload_n 0, 1) := by decide +kernel
theorem dX8_count_129 : decode cX8_count 129 = .ok (.iconst 1, 1) := by decide +kernel
theorem dX8_count_130 : decode cX8_count 130 = .ok (.invokevirtual 180, 3) := by decide +kernel
theorem dX8_count_133 : decode cX8_count 133 = .ok (.ireturn, 1) := by decide +kernel
theorem dX8_count_134 : decode cX8_count 134 = .ok (.aload_n 0, 1) := by decide +kernel
theorem dX8_count_135 : decode cX8_count 135 = .ok (.getfield 7, 3) := by decide +kernel
theorem dX8_count_138 : decode cX8_count 138 = .ok (.iconst 5, 1) := by decide +kernel
theorem dX8_count_139 : decode cX8_count 139 = .ok (.iload_n 1, 1) := by decide +kernel
theorem dX8_count_140 : decode cX8_count 140 = .ok (.iadd, 1) := by decide +kernel
theorem dX8_count_141 : decode cX8_count 141 = .ok (.bipush 8, 2) := by decide +kernel
theorem dX8_count_143 : decode cX8_count 143 = .ok (.isub, 1) := by decide +kernel
theorem dX8_count_144 : decode cX8_count 144 = .ok (.iaload, 1) := by decide +kernel
theorem dX8_count_145 : decode cX8_count 145 = .ok (.ireturn, 1) := by decide +kernel
theorem dX8_count_146 : decode cX8_count 146 = .ok (.aload_n 0, 1) := by decide +kernel
theorem dX8_count_147 : decode cX8_count 147 = .ok (.getfield 50, 3) := by decide +kernel
theorem dX8_count_150 : decode cX8_count 150 = .ok (.ireturn, 1) := by decide +kernel
theorem dX8_count_151 : decode cX8_count 151 = .ok (.aload_n 0, 1) := by decide +kernel
theorem dX8_count_152 : decode cX8_count 152 = .ok (.getfield 139, 3) := by decide +kernel
theorem dX8_count_155 : decode cX8_count 155 = .ok (.ireturn, 1) := by decide +kernel
theorem dX8_count_156 : decode cX8_count 156 = .ok (.bipush (-2), 2) := by decide +kernel
theorem dX8_count_158 : decode cX8_count 158 = .ok (.ireturn, 1) := by decide +kernel
theorem dX8_why_0 : decode cX8_why 0 = .ok (.aload_n 0, 1) := by decide +kernel
theorem dX8_why_1 : decode cX8_why 1 = .ok (.iload_n 1, 1) := by decide +kernel
theorem dX8_why_2 : decode cX8_why 2 = .ok (.iload_n 2, 1) := by decide +kernel
theorem dX8_why_3 : decode cX8_why 3 = .ok (.iload_n 3, 1) := by decide +kernel
theorem dX8_why_4 : decode cX8_why 4 = .ok (.iload 4, 2) := by decide +kernel
theorem dX8_why_6 : decode cX8_why 6 = .ok (.invokevirtual 129, 3) := by decide +kernel
theorem dX8_why_9 : decode cX8_why 9 = .ok (.istore 5, 2) := by decide +kernel
theorem dX8_why_11 : decode cX8_why 11 = .ok (.iload 5, 2) := by decide +kernel
theorem dX8_why_13 : decode cX8_why 13 = .ok (.ifCond .ge 8, 3) := by decide +kernel
theorem dX8_why_16 : decode cX8_why 16 = .ok (.iload 5, 2) := by decide +kernel
theorem dX8_why_18 : decode cX8_why 18 = .ok (.goto 12, 3) := by decide +kernel
theorem dX8_why_21 : decode cX8_why 21 = .ok (.aload_n 0, 1) := by decide +kernel
theorem dX8_why_22 : decode cX8_why 22 = .ok (.iload_n 1, 1) := by decide +kernel
theorem dX8_why_23 : decode cX8_why 23 = .ok (.iload_n 2, 1) := by decide +kernel
theorem dX8_why_24 : decode cX8_why 24 = .ok (.iload_n 3, 1) := by decide +kernel
theorem dX8_why_25 : decode cX8_why 25 = .ok (.iload 4, 2) := by decide +kernel
theorem dX8_why_27 : decode cX8_why 27 = .ok (.invokevirtual 133, 3) := by decide +kernel
theorem dX8_why_30 : decode cX8_why 30 = .ok (.ireturn, 1) := by decide +kernel
theorem dX8_cheapest_0 : decode cX8_cheapest 0 = .ok (.aload_n 0, 1) := by decide +kernel
theorem dX8_cheapest_1 : decode cX8_cheapest 1 = .ok (.iload_n 1, 1) := by decide +kernel
theorem dX8_cheapest_2 : decode cX8_cheapest 2 = .ok (.iload_n 2, 1) := by decide +kernel
theorem dX8_cheapest_3 : decode cX8_cheapest 3 = .ok (.invokevirtual 103, 3) := by decide +kernel
theorem dX8_cheapest_6 : decode cX8_cheapest 6 = .ok (.ifCond .ne 5, 3) := by decide +kernel
theorem dX8_cheapest_9 : decode cX8_cheapest 9 = .ok (.iconst (-1), 1) := by decide +kernel
theorem dX8_cheapest_10 : decode cX8_cheapest 10 = .ok (.ireturn, 1) := by decide +kernel
theorem dX8_cheapest_11 : decode cX8_cheapest 11 = .ok (.bipush (-5), 2) := by decide +kernel
theorem dX8_cheapest_13 : decode cX8_cheapest 13 = .ok (.istore_n 3, 1) := by decide +kernel
theorem dX8_cheapest_14 : decode cX8_cheapest 14 = .ok (.iconst 3, 1) := by decide +kernel
theorem dX8_cheapest_15 : decode cX8_cheapest 15 = .ok (.istore 4, 2) := by decide +kernel
theorem dX8_cheapest_17 : decode cX8_cheapest 17 = .ok (.iload 4, 2) := by decide +kernel
theorem dX8_cheapest_19 : decode cX8_cheapest 19 = .ok (.ifCond .lt 95, 3) := by decide +kernel
theorem dX8_cheapest_22 : decode cX8_cheapest 22 = .ok (.aload_n 0, 1) := by decide +kernel
theorem dX8_cheapest_23 : decode cX8_cheapest 23 = .ok (.aload_n 0, 1) := by decide +kernel
theorem dX8_cheapest_24 : decode cX8_cheapest 24 = .ok (.getfield 7, 3) := by decide +kernel
theorem dX8_cheapest_27 : decode cX8_cheapest 27 = .ok (.iload_n 1, 1) := by decide +kernel
theorem dX8_cheapest_28 : decode cX8_cheapest 28 = .ok (.iload_n 2, 1) := by decide +kernel
theorem dX8_cheapest_29 : decode cX8_cheapest 29 = .ok (.invokestatic 58, 3) := by decide +kernel
theorem dX8_cheapest_32 : decode cX8_cheapest 32 = .ok (.iconst 0, 1) := by decide +kernel
theorem dX8_cheapest_33 : decode cX8_cheapest 33 = .ok (.iadd, 1) := by decide +kernel
theorem dX8_cheapest_34 : decode cX8_cheapest 34 = .ok (.iaload, 1) := by decide +kernel
theorem dX8_cheapest_35 : decode cX8_cheapest 35 = .ok (.iload 4, 2) := by decide +kernel
theorem dX8_cheapest_37 : decode cX8_cheapest 37 = .ok (.invokevirtual 100, 3) := by decide +kernel
theorem dX8_cheapest_40 : decode cX8_cheapest 40 = .ok (.istore 5, 2) := by decide +kernel
theorem dX8_cheapest_42 : decode cX8_cheapest 42 = .ok (.iload 4, 2) := by decide +kernel
theorem dX8_cheapest_44 : decode cX8_cheapest 44 = .ok (.iload_n 1, 1) := by decide +kernel
theorem dX8_cheapest_45 : decode cX8_cheapest 45 = .ok (.if_icmp .eq 27, 3) := by decide +kernel
theorem dX8_cheapest_48 : decode cX8_cheapest 48 = .ok (.iload 5, 2) := by decide +kernel
theorem dX8_cheapest_50 : decode cX8_cheapest 50 = .ok (.bipush 99, 2) := by decide +kernel
theorem dX8_cheapest_52 : decode cX8_cheapest 52 = .ok (.if_icmp .gt 20, 3) := by decide +kernel
theorem dX8_cheapest_55 : decode cX8_cheapest 55 = .ok (.aload_n 0, 1) := by decide +kernel
theorem dX8_cheapest_56 : decode cX8_cheapest 56 = .ok (.iload_n 1, 1) := by decide +kernel
theorem dX8_cheapest_57 : decode cX8_cheapest 57 = .ok (.iload_n 2, 1) := by decide +kernel
theorem dX8_cheapest_58 : decode cX8_cheapest 58 = .ok (.iload 4, 2) := by decide +kernel
theorem dX8_cheapest_60 : decode cX8_cheapest 60 = .ok (.iload 5, 2) := by decide +kernel
theorem dX8_cheapest_62 : decode cX8_cheapest 62 = .ok (.invokevirtual 133, 3) := by decide +kernel
theorem dX8_cheapest_65 : decode cX8_cheapest 65 = .ok (.ifCond .ne 7, 3) := by decide +kernel
theorem dX8_cheapest_68 : decode cX8_cheapest 68 = .ok (.iconst 1, 1) := by decide +kernel
theorem dX8_cheapest_69 : decode cX8_cheapest 69 = .ok (.goto 4, 3) := by decide +kernel
theorem dX8_cheapest_72 : decode cX8_cheapest 72 = .ok (.iconst 0, 1) := by decide +kernel
theorem dX8_cheapest_73 : decode cX8_cheapest 73 = .ok (.istore 6, 2) := by decide +kernel
theorem dX8_cheapest_75 : decode cX8_cheapest 75 = .ok (.iload 6, 2) := by decide +kernel
theorem dX8_cheapest_77 : decode cX8_cheapest 77 = .ok (.ifCond .eq 29, 3) := by decide +kernel
theorem dX8_cheapest_80 : decode cX8_cheapest 80 = .ok (.iload_n 3, 1) := by decide +kernel
theorem dX8_cheapest_81 : decode cX8_cheapest 81 = .ok (.bipush (-5), 2) := by decide +kernel
theorem dX8_cheapest_83 : decode cX8_cheapest 83 = .ok (.if_icmp .eq 12, 3) := by decide +kernel
theorem dX8_cheapest_86 : decode cX8_cheapest 86 = .ok (.iload 5, 2) := by decide +kernel
theorem dX8_cheapest_88 : decode cX8_cheapest 88 = .ok (.iload_n 3, 1) := by decide +kernel
theorem dX8_cheapest_89 : decode cX8_cheapest 89 = .ok (.bipush 100, 2) := by decide +kernel
theorem dX8_cheapest_91 : decode cX8_cheapest 91 = .ok (.irem, 1) := by decide +kernel
theorem dX8_cheapest_92 : decode cX8_cheapest 92 = .ok (.if_icmp .gt 14, 3) := by decide +kernel
theorem dX8_cheapest_95 : decode cX8_cheapest 95 = .ok (.bipush 100, 2) := by decide +kernel
theorem dX8_cheapest_97 : decode cX8_cheapest 97 = .ok (.iload 4, 2) := by decide +kernel
theorem dX8_cheapest_99 : decode cX8_cheapest 99 = .ok (.imul, 1) := by decide +kernel
theorem dX8_cheapest_100 : decode cX8_cheapest 100 = .ok (.iload 5, 2) := by decide +kernel
theorem dX8_cheapest_102 : decode cX8_cheapest 102 = .ok (.iadd, 1) := by decide +kernel
theorem dX8_cheapest_103 : decode cX8_cheapest 103 = .ok (.goto 4, 3) := by decide +kernel
theorem dX8_cheapest_106 : decode cX8_cheapest 106 = .ok (.iload_n 3, 1) := by decide +kernel
theorem dX8_cheapest_107 : decode cX8_cheapest 107 = .ok (.istore_n 3, 1) := by decide +kernel
theorem dX8_cheapest_108 : decode cX8_cheapest 108 = .ok (.iinc 4 (-1), 3) := by decide +kernel
theorem dX8_cheapest_111 : decode cX8_cheapest 111 = .ok (.goto (-94), 3) := by decide +kernel
theorem dX8_cheapest_114 : decode cX8_cheapest 114 = .ok (.iload_n 3, 1) := by decide +kernel
theorem dX8_cheapest_115 : decode cX8_cheapest 115 = .ok (.ireturn, 1) := by decide +kernel
theorem dX8_dangers_0 : decode cX8_dangers 0 = .ok (.iload_n 1, 1) := by decide +kernel
theorem dX8_dangers_1 : decode cX8_dangers 1 = .ok (.invokestatic 39, 3) := by decide +kernel
theorem dX8_dangers_4 : decode cX8_dangers 4 = .ok (.ifCond .ne 5, 3) := by decide +kernel
theorem dX8_dangers_7 : decode cX8_dangers 7 = .ok (.iconst (-1), 1) := by decide +kernel
theorem dX8_dangers_8 : decode cX8_dangers 8 = .ok (.ireturn, 1) := by decide +kernel
theorem dX8_dangers_9 : decode cX8_dangers 9 = .ok (.aload_n 0, 1) := by decide +kernel
theorem dX8_dangers_10 : decode cX8_dangers 10 = .ok (.iload_n 1, 1) := by decide +kernel
theorem dX8_dangers_11 : decode cX8_dangers 11 = .ok (.invokevirtual 96, 3) := by decide +kernel
theorem dX8_dangers_14 : decode cX8_dangers 14 = .ok (.ifCond .ne 6, 3) := by decide +kernel
theorem dX8_dangers_17 : decode cX8_dangers 17 = .ok (.bipush (-4), 2) := by decide +kernel
theorem dX8_dangers_19 : decode cX8_dangers 19 = .ok (.ireturn, 1) := by decide +kernel
theorem dX8_dangers_20 : decode cX8_dangers 20 = .ok (.iconst 0, 1) := by decide +kernel
theorem dX8_dangers_21 : decode cX8_dangers 21 = .ok (.istore_n 2, 1) := by decide +kernel
theorem dX8_dangers_22 : decode cX8_dangers 22 = .ok (.iconst 1, 1) := by decide +kernel
theorem dX8_dangers_23 : decode cX8_dangers 23 = .ok (.istore_n 3, 1) := by decide +kernel
theorem dX8_dangers_24 : decode cX8_dangers 24 = .ok (.iload_n 3, 1) := by decide +kernel
theorem dX8_dangers_25 : decode cX8_dangers 25 = .ok (.bipush 6, 2) := by decide +kernel
theorem dX8_dangers_27 : decode cX8_dangers 27 = .ok (.if_icmp .gt 36, 3) := by decide +kernel
theorem dX8_dangers_30 : decode cX8_dangers 30 = .ok (.iload_n 2, 1) := by decide +kernel
theorem dX8_dangers_31 : decode cX8_dangers 31 = .ok (.aload_n 0, 1) := by decide +kernel
theorem dX8_dangers_32 : decode cX8_dangers 32 = .ok (.iload_n 1, 1) := by decide +kernel
theorem dX8_dangers_33 : decode cX8_dangers 33 = .ok (.aload_n 0, 1) := by decide +kernel
theorem dX8_dangers_34 : decode cX8_dangers 34 = .ok (.iload_n 1, 1) := by decide +kernel
theorem dX8_dangers_35 : decode cX8_dangers 35 = .ok (.invokevirtual 79, 3) := by decide +kernel
theorem dX8_dangers_38 : decode cX8_dangers 38 = .ok (.iload_n 3, 1) := by decide +kernel
theorem dX8_dangers_39 : decode cX8_dangers 39 = .ok (.invokestatic 82, 3) := by decide +kernel
theorem dX8_dangers_42 : decode cX8_dangers 42 = .ok (.invokevirtual 85, 3) := by decide +kernel
theorem dX8_dangers_45 : decode cX8_dangers 45 = .ok (.ifCond .eq 9, 3) := by decide +kernel
theorem dX8_dangers_48 : decode cX8_dangers 48 = .ok (.iconst 1, 1) := by decide +kernel
theorem dX8_dangers_49 : decode cX8_dangers 49 = .ok (.iload_n 3, 1) := by decide +kernel
theorem dX8_dangers_50 : decode cX8_dangers 50 = .ok (.ishl, 1) := by decide +kernel
theorem dX8_dangers_51 : decode cX8_dangers 51 = .ok (.goto 4, 3) := by decide +kernel
theorem dX8_dangers_54 : decode cX8_dangers 54 = .ok (.iconst 0, 1) := by decide +kernel
theorem dX8_dangers_55 : decode cX8_dangers 55 = .ok (.ior, 1) := by decide +kernel
theorem dX8_dangers_56 : decode cX8_dangers 56 = .ok (.istore_n 2, 1) := by decide +kernel
theorem dX8_dangers_57 : decode cX8_dangers 57 = .ok (.iinc 3 1, 3) := by decide +kernel
theorem dX8_dangers_60 : decode cX8_dangers 60 = .ok (.goto (-36), 3) := by decide +kernel
theorem dX8_dangers_63 : decode cX8_dangers 63 = .ok (.iload_n 2, 1) := by decide +kernel
theorem dX8_dangers_64 : decode cX8_dangers 64 = .ok (.ireturn, 1) := by decide +kernel
theorem dX8_throwsHome_0 : decode cX8_throwsHome 0 = .ok (.iconst 0, 1) := by decide +kernel
theorem dX8_throwsHome_1 : decode cX8_throwsHome 1 = .ok (.istore_n 1, 1) := by decide +kernel
theorem dX8_throwsHome_2 : decode cX8_throwsHome 2 = .ok (.iconst 0, 1) := by decide +kernel
theorem dX8_throwsHome_3 : decode cX8_throwsHome 3 = .ok (.istore_n 2, 1) := by decide +kernel
theorem dX8_throwsHome_4 : decode cX8_throwsHome 4 = .ok (.iload_n 2, 1) := by decide +kernel
theorem dX8_throwsHome_5 : decode cX8_throwsHome 5 = .ok (.bipush 60, 2) := by decide +kernel
theorem dX8_throwsHome_7 : decode cX8_throwsHome 7 = .ok (.if_icmp .ge 21, 3) := by decide +kernel
theorem dX8_throwsHome_10 : decode cX8_throwsHome 10 = .ok (.aload_n 0, 1) := by decide +kernel
theorem dX8_throwsHome_11 : decode cX8_throwsHome 11 = .ok (.getfield 32, 3) := by decide +kernel
theorem dX8_throwsHome_14 : decode cX8_throwsHome 14 = .ok (.iload_n 2, 1) := by decide +kernel
theorem dX8_throwsHome_15 : decode cX8_throwsHome 15 = .ok (.aload_n 0, 1) := by decide +kernel
theorem dX8_throwsHome_16 : decode cX8_throwsHome 16 = .ok (.getfield 28, 3) := by decide +kernel
theorem dX8_throwsHome_19 : decode cX8_throwsHome 19 = .ok (.iload_n 2, 1) := by decide +kernel
theorem dX8_throwsHome_20 : decode cX8_throwsHome 20 = .ok (.baload, 1) := by decide +kernel
theorem dX8_throwsHome_21 : decode cX8_throwsHome 21 = .ok (.bastore, 1) := by decide +kernel
theorem dX8_throwsHome_22 : decode cX8_throwsHome 22 = .ok (.iinc 2 1, 3) := by decide +kernel
theorem dX8_throwsHome_25 : decode cX8_throwsHome 25 = .ok (.goto (-21), 3) := by decide +kernel
theorem dX8_throwsHome_28 : decode cX8_throwsHome 28 = .ok (.iconst 0, 1) := by decide +kernel
theorem dX8_throwsHome_29 : decode cX8_throwsHome 29 = .ok (.istore_n 2, 1) := by decide +kernel
theorem dX8_throwsHome_30 : decode cX8_throwsHome 30 = .ok (.iload_n 2, 1) := by decide +kernel
theorem dX8_throwsHome_31 : decode cX8_throwsHome 31 = .ok (.bipush 60, 2) := by decide +kernel
theorem dX8_throwsHome_33 : decode cX8_throwsHome 33 = .ok (.if_icmp .ge 89, 3) := by decide +kernel
theorem dX8_throwsHome_36 : decode cX8_throwsHome 36 = .ok (.iconst 1, 1) := by decide +kernel
theorem dX8_throwsHome_37 : decode cX8_throwsHome 37 = .ok (.istore_n 3, 1) := by decide +kernel
theorem dX8_throwsHome_38 : decode cX8_throwsHome 38 = .ok (.iload_n 3, 1) := by decide +kernel
theorem dX8_throwsHome_39 : decode cX8_throwsHome 39 = .ok (.bipush 6, 2) := by decide +kernel
theorem dX8_throwsHome_41 : decode cX8_throwsHome 41 = .ok (.if_icmp .gt 75, 3) := by decide +kernel
theorem dX8_throwsHome_44 : decode cX8_throwsHome 44 = .ok (.aload_n 0, 1) := by decide +kernel
theorem dX8_throwsHome_45 : decode cX8_throwsHome 45 = .ok (.getfield 28, 3) := by decide +kernel
theorem dX8_throwsHome_48 : decode cX8_throwsHome 48 = .ok (.iload_n 2, 1) := by decide +kernel
theorem dX8_throwsHome_49 : decode cX8_throwsHome 49 = .ok (.baload, 1) := by decide +kernel
theorem dX8_throwsHome_50 : decode cX8_throwsHome 50 = .ok (.ifCond .eq 66, 3) := by decide +kernel
theorem dX8_throwsHome_53 : decode cX8_throwsHome 53 = .ok (.iload_n 2, 1) := by decide +kernel
theorem dX8_throwsHome_54 : decode cX8_throwsHome 54 = .ok (.iload_n 3, 1) := by decide +kernel
theorem dX8_throwsHome_55 : decode cX8_throwsHome 55 = .ok (.invokestatic 82, 3) := by decide +kernel
theorem dX8_throwsHome_58 : decode cX8_throwsHome 58 = .ok (.istore 4, 2) := by decide +kernel
theorem dX8_throwsHome_60 : decode cX8_throwsHome 60 = .ok (.aload_n 0, 1) := by decide +kernel
theorem dX8_throwsHome_61 : decode cX8_throwsHome 61 = .ok (.iload 4, 2) := by decide +kernel
theorem dX8_throwsHome_63 : decode cX8_throwsHome 63 = .ok (.invokevirtual 65, 3) := by decide +kernel
theorem dX8_throwsHome_66 : decode cX8_throwsHome 66 = .ok (.istore 5, 2) := by decide +kernel
theorem dX8_throwsHome_68 : decode cX8_throwsHome 68 = .ok (.iload_n 1, 1) := by decide +kernel
theorem dX8_throwsHome_69 : decode cX8_throwsHome 69 = .ok (.ifCond .ne 10, 3) := by decide +kernel
theorem dX8_throwsHome_72 : decode cX8_throwsHome 72 = .ok (.iload 4, 2) := by decide +kernel
theorem dX8_throwsHome_74 : decode cX8_throwsHome 74 = .ok (.bipush 60, 2) := by decide +kernel
theorem dX8_throwsHome_76 : decode cX8_throwsHome 76 = .ok (.if_icmp .ne 7, 3) := by decide +kernel
theorem dX8_throwsHome_79 : decode cX8_throwsHome 79 = .ok (.iconst 1, 1) := by decide +kernel
theorem dX8_throwsHome_80 : decode cX8_throwsHome 80 = .ok (.goto 4, 3) := by decide +kernel
theorem dX8_throwsHome_83 : decode cX8_throwsHome 83 = .ok (.iconst 0, 1) := by decide +kernel
theorem dX8_throwsHome_84 : decode cX8_throwsHome 84 = .ok (.istore_n 1, 1) := by decide +kernel
theorem dX8_throwsHome_85 : decode cX8_throwsHome 85 = .ok (.aload_n 0, 1) := by decide +kernel
theorem dX8_throwsHome_86 : decode cX8_throwsHome 86 = .ok (.getfield 32, 3) := by decide +kernel
theorem dX8_throwsHome_89 : decode cX8_throwsHome 89 = .ok (.iload 5, 2) := by decide +kernel
theorem dX8_throwsHome_91 : decode cX8_throwsHome 91 = .ok (.bipush (-5), 2) := by decide +kernel
theorem dX8_throwsHome_93 : decode cX8_throwsHome 93 = .ok (.if_icmp .ne 8, 3) := by decide +kernel
theorem dX8_throwsHome_96 : decode cX8_throwsHome 96 = .ok (.iload 4, 2) := by decide +kernel
theorem dX8_throwsHome_98 : decode cX8_throwsHome 98 = .ok (.goto 10, 3) := by decide +kernel
theorem dX8_throwsHome_101 : decode cX8_throwsHome 101 = .ok (.aload_n 0, 1) := by decide +kernel
theorem dX8_throwsHome_102 : decode cX8_throwsHome 102 = .ok (.iload 5, 2) := by decide +kernel
theorem dX8_throwsHome_104 : decode cX8_throwsHome 104 = .ok (.iconst 1, 1) := by decide +kernel
theorem dX8_throwsHome_105 : decode cX8_throwsHome 105 = .ok (.invokevirtual 47, 3) := by decide +kernel
theorem dX8_throwsHome_108 : decode cX8_throwsHome 108 = .ok (.iconst 1, 1) := by decide +kernel
theorem dX8_throwsHome_109 : decode cX8_throwsHome 109 = .ok (.bastore, 1) := by decide +kernel
theorem dX8_throwsHome_110 : decode cX8_throwsHome 110 = .ok (.iinc 3 1, 3) := by decide +kernel
theorem dX8_throwsHome_113 : decode cX8_throwsHome 113 = .ok (.goto (-75), 3) := by decide +kernel
theorem dX8_throwsHome_116 : decode cX8_throwsHome 116 = .ok (.iinc 2 1, 3) := by decide +kernel
theorem dX8_throwsHome_119 : decode cX8_throwsHome 119 = .ok (.goto (-89), 3) := by decide +kernel
theorem dX8_throwsHome_122 : decode cX8_throwsHome 122 = .ok (.iconst 0, 1) := by decide +kernel
theorem dX8_throwsHome_123 : decode cX8_throwsHome 123 = .ok (.istore_n 2, 1) := by decide +kernel
theorem dX8_throwsHome_124 : decode cX8_throwsHome 124 = .ok (.iload_n 2, 1) := by decide +kernel
theorem dX8_throwsHome_125 : decode cX8_throwsHome 125 = .ok (.bipush 60, 2) := by decide +kernel
theorem dX8_throwsHome_127 : decode cX8_throwsHome 127 = .ok (.if_icmp .ge 21, 3) := by decide +kernel
theorem dX8_throwsHome_130 : decode cX8_throwsHome 130 = .ok (.aload_n 0, 1) := by decide +kernel
theorem dX8_throwsHome_131 : decode cX8_throwsHome 131 = .ok (.getfield 28, 3) := by decide +kernel
theorem dX8_throwsHome_134 : decode cX8_throwsHome 134 = .ok (.iload_n 2, 1) := by decide +kernel
theorem dX8_throwsHome_135 : decode cX8_throwsHome 135 = .ok (.aload_n 0, 1) := by decide +kernel
theorem dX8_throwsHome_136 : decode cX8_throwsHome 136 = .ok (.getfield 32, 3) := by decide +kernel
theorem dX8_throwsHome_139 : decode cX8_throwsHome 139 = .ok (.iload_n 2, 1) := by decide +kernel
theorem dX8_throwsHome_140 : decode cX8_throwsHome 140 = .ok (.baload, 1) := by decide +kernel
theorem dX8_throwsHome_141 : decode cX8_throwsHome 141 = .ok (.bastore, 1) := by decide +kernel
theorem dX8_throwsHome_142 : decode cX8_throwsHome 142 = .ok (.iinc 2 1, 3) := by decide +kernel
theorem dX8_throwsHome_145 : decode cX8_throwsHome 145 = .ok (.goto (-21), 3) := by decide +kernel
theorem dX8_throwsHome_148 : decode cX8_throwsHome 148 = .ok (.iload_n 1, 1) := by decide +kernel
theorem dX8_throwsHome_149 : decode cX8_throwsHome 149 = .ok (.ireturn, 1) := by decide +kernel
theorem dX8_fewest_0 : decode cX8_fewest 0 = .ok (.iload_n 1, 1) := by decide +kernel
theorem dX8_fewest_1 : decode cX8_fewest 1 = .ok (.invokestatic 39, 3) := by decide +kernel
theorem dX8_fewest_4 : decode cX8_fewest 4 = .ok (.ifCond .ne 5, 3) := by decide +kernel
theorem dX8_fewest_7 : decode cX8_fewest 7 = .ok (.iconst (-1), 1) := by decide +kernel
theorem dX8_fewest_8 : decode cX8_fewest 8 = .ok (.ireturn, 1) := by decide +kernel
theorem dX8_fewest_9 : decode cX8_fewest 9 = .ok (.iload_n 2, 1) := by decide +kernel
theorem dX8_fewest_10 : decode cX8_fewest 10 = .ok (.iconst 0, 1) := by decide +kernel
theorem dX8_fewest_11 : decode cX8_fewest 11 = .ok (.iconst 1, 1) := by decide +kernel
theorem dX8_fewest_12 : decode cX8_fewest 12 = .ok (.invokestatic 35, 3) := by decide +kernel
theorem dX8_fewest_15 : decode cX8_fewest 15 = .ok (.ifCond .ne 6, 3) := by decide +kernel
theorem dX8_fewest_18 : decode cX8_fewest 18 = .ok (.bipush (-2), 2) := by decide +kernel
theorem dX8_fewest_20 : decode cX8_fewest 20 = .ok (.ireturn, 1) := by decide +kernel
theorem dX8_fewest_21 : decode cX8_fewest 21 = .ok (.aload_n 0, 1) := by decide +kernel
theorem dX8_fewest_22 : decode cX8_fewest 22 = .ok (.iload_n 1, 1) := by decide +kernel
theorem dX8_fewest_23 : decode cX8_fewest 23 = .ok (.invokevirtual 96, 3) := by decide +kernel
theorem dX8_fewest_26 : decode cX8_fewest 26 = .ok (.ifCond .ne 5, 3) := by decide +kernel
theorem dX8_fewest_29 : decode cX8_fewest 29 = .ok (.iconst 0, 1) := by decide +kernel
theorem dX8_fewest_30 : decode cX8_fewest 30 = .ok (.ireturn, 1) := by decide +kernel
theorem dX8_fewest_31 : decode cX8_fewest 31 = .ok (.iconst 0, 1) := by decide +kernel
theorem dX8_fewest_32 : decode cX8_fewest 32 = .ok (.istore_n 3, 1) := by decide +kernel
theorem dX8_fewest_33 : decode cX8_fewest 33 = .ok (.iload_n 3, 1) := by decide +kernel
theorem dX8_fewest_34 : decode cX8_fewest 34 = .ok (.bipush 60, 2) := by decide +kernel
theorem dX8_fewest_36 : decode cX8_fewest 36 = .ok (.if_icmp .ge 29, 3) := by decide +kernel
theorem dX8_fewest_39 : decode cX8_fewest 39 = .ok (.aload_n 0, 1) := by decide +kernel
theorem dX8_fewest_40 : decode cX8_fewest 40 = .ok (.getfield 28, 3) := by decide +kernel
theorem dX8_fewest_43 : decode cX8_fewest 43 = .ok (.iload_n 3, 1) := by decide +kernel
theorem dX8_fewest_44 : decode cX8_fewest 44 = .ok (.iload_n 3, 1) := by decide +kernel
theorem dX8_fewest_45 : decode cX8_fewest 45 = .ok (.aload_n 0, 1) := by decide +kernel
theorem dX8_fewest_46 : decode cX8_fewest 46 = .ok (.iload_n 1, 1) := by decide +kernel
theorem dX8_fewest_47 : decode cX8_fewest 47 = .ok (.invokevirtual 79, 3) := by decide +kernel
theorem dX8_fewest_50 : decode cX8_fewest 50 = .ok (.if_icmp .ne 7, 3) := by decide +kernel
theorem dX8_fewest_53 : decode cX8_fewest 53 = .ok (.iconst 1, 1) := by decide +kernel
theorem dX8_fewest_54 : decode cX8_fewest 54 = .ok (.goto 4, 3) := by decide +kernel
theorem dX8_fewest_57 : decode cX8_fewest 57 = .ok (.iconst 0, 1) := by decide +kernel
theorem dX8_fewest_58 : decode cX8_fewest 58 = .ok (.bastore, 1) := by decide +kernel
theorem dX8_fewest_59 : decode cX8_fewest 59 = .ok (.iinc 3 1, 3) := by decide +kernel
theorem dX8_fewest_62 : decode cX8_fewest 62 = .ok (.goto (-29), 3) := by decide +kernel
theorem dX8_fewest_65 : decode cX8_fewest 65 = .ok (.iconst 1, 1) := by decide +kernel
theorem dX8_fewest_66 : decode cX8_fewest 66 = .ok (.istore_n 3, 1) := by decide +kernel
theorem dX8_fewest_67 : decode cX8_fewest 67 = .ok (.iload_n 3, 1) := by decide +kernel
theorem dX8_fewest_68 : decode cX8_fewest 68 = .ok (.bipush 60, 2) := by decide +kernel
theorem dX8_fewest_70 : decode cX8_fewest 70 = .ok (.if_icmp .gt 16, 3) := by decide +kernel
theorem dX8_fewest_73 : decode cX8_fewest 73 = .ok (.aload_n 0, 1) := by decide +kernel
theorem dX8_fewest_74 : decode cX8_fewest 74 = .ok (.invokevirtual 183, 3) := by decide +kernel
theorem dX8_fewest_77 : decode cX8_fewest 77 = .ok (.ifCond .ne 9, 3) := by decide +kernel
theorem dX8_fewest_80 : decode cX8_fewest 80 = .ok (.iinc 3 1, 3) := by decide +kernel
theorem dX8_fewest_83 : decode cX8_fewest 83 = .ok (.goto (-16), 3) := by decide +kernel
theorem dX8_fewest_86 : decode cX8_fewest 86 = .ok (.iload_n 3, 1) := by decide +kernel
theorem dX8_fewest_87 : decode cX8_fewest 87 = .ok (.bipush 60, 2) := by decide +kernel
theorem dX8_fewest_89 : decode cX8_fewest 89 = .ok (.if_icmp .gt 7, 3) := by decide +kernel
theorem dX8_fewest_92 : decode cX8_fewest 92 = .ok (.iload_n 3, 1) := by decide +kernel
theorem dX8_fewest_93 : decode cX8_fewest 93 = .ok (.goto 5, 3) := by decide +kernel
theorem dX8_fewest_96 : decode cX8_fewest 96 = .ok (.bipush (-5), 2) := by decide +kernel
theorem dX8_fewest_98 : decode cX8_fewest 98 = .ok (.ireturn, 1) := by decide +kernel
theorem dX8_nextHome_0 : decode cX8_nextHome 0 = .ok (.iload_n 1, 1) := by decide +kernel
theorem dX8_nextHome_1 : decode cX8_nextHome 1 = .ok (.iconst 0, 1) := by decide +kernel
theorem dX8_nextHome_2 : decode cX8_nextHome 2 = .ok (.ldc 122, 2) := by decide +kernel
theorem dX8_nextHome_4 : decode cX8_nextHome 4 = .ok (.invokestatic 35, 3) := by decide +kernel
theorem dX8_nextHome_7 : decode cX8_nextHome 7 = .ok (.ifCond .ne 6, 3) := by decide +kernel
theorem dX8_nextHome_10 : decode cX8_nextHome 10 = .ok (.bipush (-2), 2) := by decide +kernel
theorem dX8_nextHome_12 : decode cX8_nextHome 12 = .ok (.ireturn, 1) := by decide +kernel
theorem dX8_nextHome_13 : decode cX8_nextHome 13 = .ok (.aload_n 0, 1) := by decide +kernel
theorem dX8_nextHome_14 : decode cX8_nextHome 14 = .ok (.invokevirtual 92, 3) := by decide +kernel
theorem dX8_nextHome_17 : decode cX8_nextHome 17 = .ok (.ifCond .eq 6, 3) := by decide +kernel
theorem dX8_nextHome_20 : decode cX8_nextHome 20 = .ok (.bipush (-4), 2) := by decide +kernel
theorem dX8_nextHome_22 : decode cX8_nextHome 22 = .ok (.ireturn, 1) := by decide +kernel
theorem dX8_nextHome_23 : decode cX8_nextHome 23 = .ok (.aload_n 0, 1) := by decide +kernel
theorem dX8_nextHome_24 : decode cX8_nextHome 24 = .ok (.getfield 7, 3) := by decide +kernel
theorem dX8_nextHome_27 : decode cX8_nextHome 27 = .ok (.iconst 0, 1) := by decide +kernel
theorem dX8_nextHome_28 : decode cX8_nextHome 28 = .ok (.aload_n 0, 1) := by decide +kernel
theorem dX8_nextHome_29 : decode cX8_nextHome 29 = .ok (.getfield 19, 3) := by decide +kernel
theorem dX8_nextHome_32 : decode cX8_nextHome 32 = .ok (.iconst 0, 1) := by decide +kernel
theorem dX8_nextHome_33 : decode cX8_nextHome 33 = .ok (.invokestatic 54, 3) := by decide +kernel
theorem dX8_nextHome_36 : decode cX8_nextHome 36 = .ok (.bipush (-5), 2) := by decide +kernel
theorem dX8_nextHome_38 : decode cX8_nextHome 38 = .ok (.istore_n 2, 1) := by decide +kernel
theorem dX8_nextHome_39 : decode cX8_nextHome 39 = .ok (.iload_n 1, 1) := by decide +kernel
theorem dX8_nextHome_40 : decode cX8_nextHome 40 = .ok (.istore_n 3, 1) := by decide +kernel
theorem dX8_nextHome_41 : decode cX8_nextHome 41 = .ok (.iconst 0, 1) := by decide +kernel
theorem dX8_nextHome_42 : decode cX8_nextHome 42 = .ok (.istore 4, 2) := by decide +kernel
theorem dX8_nextHome_44 : decode cX8_nextHome 44 = .ok (.iload 4, 2) := by decide +kernel
theorem dX8_nextHome_46 : decode cX8_nextHome 46 = .ok (.sipush 200, 3) := by decide +kernel
theorem dX8_nextHome_49 : decode cX8_nextHome 49 = .ok (.if_icmp .ge 49, 3) := by decide +kernel
theorem dX8_nextHome_52 : decode cX8_nextHome 52 = .ok (.iload_n 2, 1) := by decide +kernel
theorem dX8_nextHome_53 : decode cX8_nextHome 53 = .ok (.bipush (-5), 2) := by decide +kernel
theorem dX8_nextHome_55 : decode cX8_nextHome 55 = .ok (.if_icmp .ne 43, 3) := by decide +kernel
theorem dX8_nextHome_58 : decode cX8_nextHome 58 = .ok (.aload_n 0, 1) := by decide +kernel
theorem dX8_nextHome_59 : decode cX8_nextHome 59 = .ok (.getfield 7, 3) := by decide +kernel
theorem dX8_nextHome_62 : decode cX8_nextHome 62 = .ok (.iconst 1, 1) := by decide +kernel
theorem dX8_nextHome_63 : decode cX8_nextHome 63 = .ok (.iaload, 1) := by decide +kernel
theorem dX8_nextHome_64 : decode cX8_nextHome 64 = .ok (.istore 5, 2) := by decide +kernel
theorem dX8_nextHome_66 : decode cX8_nextHome 66 = .ok (.iload_n 3, 1) := by decide +kernel
theorem dX8_nextHome_67 : decode cX8_nextHome 67 = .ok (.invokestatic 123, 3) := by decide +kernel
theorem dX8_nextHome_70 : decode cX8_nextHome 70 = .ok (.istore_n 3, 1) := by decide +kernel
theorem dX8_nextHome_71 : decode cX8_nextHome 71 = .ok (.aload_n 0, 1) := by decide +kernel
theorem dX8_nextHome_72 : decode cX8_nextHome 72 = .ok (.iload_n 3, 1) := by decide +kernel
theorem dX8_nextHome_73 : decode cX8_nextHome 73 = .ok (.invokestatic 126, 3) := by decide +kernel
theorem dX8_nextHome_76 : decode cX8_nextHome 76 = .ok (.invokevirtual 119, 3) := by decide +kernel
theorem dX8_nextHome_79 : decode cX8_nextHome 79 = .ok (.bipush 60, 2) := by decide +kernel
theorem dX8_nextHome_81 : decode cX8_nextHome 81 = .ok (.if_icmp .ne 8, 3) := by decide +kernel
theorem dX8_nextHome_84 : decode cX8_nextHome 84 = .ok (.iload 5, 2) := by decide +kernel
theorem dX8_nextHome_86 : decode cX8_nextHome 86 = .ok (.goto 5, 3) := by decide +kernel
theorem dX8_nextHome_89 : decode cX8_nextHome 89 = .ok (.bipush (-5), 2) := by decide +kernel
theorem dX8_nextHome_91 : decode cX8_nextHome 91 = .ok (.istore_n 2, 1) := by decide +kernel
theorem dX8_nextHome_92 : decode cX8_nextHome 92 = .ok (.iinc 4 1, 3) := by decide +kernel
theorem dX8_nextHome_95 : decode cX8_nextHome 95 = .ok (.goto (-51), 3) := by decide +kernel
theorem dX8_nextHome_98 : decode cX8_nextHome 98 = .ok (.aload_n 0, 1) := by decide +kernel
theorem dX8_nextHome_99 : decode cX8_nextHome 99 = .ok (.getfield 19, 3) := by decide +kernel
theorem dX8_nextHome_102 : decode cX8_nextHome 102 = .ok (.iconst 0, 1) := by decide +kernel
theorem dX8_nextHome_103 : decode cX8_nextHome 103 = .ok (.aload_n 0, 1) := by decide +kernel
theorem dX8_nextHome_104 : decode cX8_nextHome 104 = .ok (.getfield 7, 3) := by decide +kernel
theorem dX8_nextHome_107 : decode cX8_nextHome 107 = .ok (.iconst 0, 1) := by decide +kernel
theorem dX8_nextHome_108 : decode cX8_nextHome 108 = .ok (.invokestatic 54, 3) := by decide +kernel
theorem dX8_nextHome_111 : decode cX8_nextHome 111 = .ok (.iload_n 2, 1) := by decide +kernel
theorem dX8_nextHome_112 : decode cX8_nextHome 112 = .ok (.ireturn, 1) := by decide +kernel
theorem dX8_progress_0 : decode cX8_progress 0 = .ok (.iload_n 1, 1) := by decide +kernel
theorem dX8_progress_1 : decode cX8_progress 1 = .ok (.invokestatic 39, 3) := by decide +kernel
theorem dX8_progress_4 : decode cX8_progress 4 = .ok (.ifCond .eq 16, 3) := by decide +kernel
theorem dX8_progress_7 : decode cX8_progress 7 = .ok (.aload_n 0, 1) := by decide +kernel
theorem dX8_progress_8 : decode cX8_progress 8 = .ok (.iload_n 1, 1) := by decide +kernel
theorem dX8_progress_9 : decode cX8_progress 9 = .ok (.invokevirtual 79, 3) := by decide +kernel
theorem dX8_progress_12 : decode cX8_progress 12 = .ok (.i2d, 1) := by decide +kernel
theorem dX8_progress_13 : decode cX8_progress 13 = .ok (.ldc2_w 186, 3) := by decide +kernel
theorem dX8_progress_16 : decode cX8_progress 16 = .ok (.ddiv, 1) := by decide +kernel
theorem dX8_progress_17 : decode cX8_progress 17 = .ok (.goto 4, 3) := by decide +kernel
theorem dX8_progress_20 : decode cX8_progress 20 = .ok (.dconst 0, 1) := by decide +kernel
theorem dX8_progress_21 : decode cX8_progress 21 = .ok (.dreturn, 1) := by decide +kernel
end
section
/-! more rows; the layout of the two objects' cells; kinds of ends -/
section FWM
variable {l : Launch} {g : fw_G} {k : fw_M} {T T' : fw_T} {mc ms : Nat} {Q : Option Value → fw_I → fw_P → Prop} {I : fw_I} {P : fw_P} {u w pc q : Nat} {L L' : List (Option Value)} {st : List Value}
theorem V_getr {ci kf idx a N b : Nat} {C : String} {Tt : u_T} {ty : Nat → FieldType} {r : Option Nat} (hc : fw_cl ci C Tt N ty) (hk : kf < N) (hl : Cond.fieldLink k.1.cls idx (Tt kf).1 (Tt kf).2.1 (Tt kf).2.2.1 ∈ fw_U) (hT : fw_at T a ci 0) (hv : (fw_fs g I P a ci)[kf]? = some (fw_rf g r)) (hr : r = some b) (hd : decode k.2.1 pc = .ok (.getfield idx, 3)) (hq : pc + 3 = q) (kk : V l g k T' mc ms Q T I P u w q L (.ref (g.1 + b) :: st)) : V l g k T' mc ms Q T I P u w pc L (.ref (g.1 + a) :: st) := by
  subst hr
  exact V_get hc hk hl hT hv hd hq kk
theorem V_aaldr {kd ce a n j b : Nat} {r : vw_C} {i : Int32} (he : fw_el kd ce r) (hT : fw_at T a kd n) (hi : fw_ix i j n) (hr : P a j = some b) (hd : decode k.2.1 pc = .ok (.aaload, 1)) (hq : pc + 1 = q) (kk : V l g k T' mc ms Q T I P u w q L (.ref (g.1 + b) :: st)) : V l g k T' mc ms Q T I P u w pc L (.int i :: .ref (g.1 + a) :: st) := by
  refine V_aald he hT hi hd hq ?_
  rw [hr]
  exact kk
theorem V_iinc1 {i : Nat} {x : Int32} (hl : L[i]? = some (some (.int x))) (hn : i < k.2.2.1) (hL' : L.set i (some (.int (x + 1))) = L') (hd : decode k.2.1 pc = .ok (.iinc i 1, 3)) (hq : pc + 3 = q) (kk : V l g k T' mc ms Q T I P u w q L' st) : V l g k T' mc ms Q T I P u w pc L st := V_iinc (n := 1) (v := x + 1) hl rfl hn hL' hd hq kk
theorem V_iincm {i : Nat} {x : Int32} (hl : L[i]? = some (some (.int x))) (hn : i < k.2.2.1) (hL' : L.set i (some (.int (x + -1))) = L') (hd : decode k.2.1 pc = .ok (.iinc i (-1), 3)) (hq : pc + 3 = q) (kk : V l g k T' mc ms Q T I P u w q L' st) : V l g k T' mc ms Q T I P u w pc L st := V_iinc (n := -1) (v := x + -1) hl (by rfl) hn hL' hd hq kk
/-- ends: an int and nothing changed; an int; nothing; a reference and nothing changed -/
def qI (f : Int32) (I : fw_I) (P : fw_P) : Option Value → fw_I → fw_P → Prop := fun v I1 P1 => v = some (.int f) ∧ I1 = I ∧ P1 = P
def qJ (post : Int32 → fw_I → fw_P → Prop) : Option Value → fw_I → fw_P → Prop := fun v I1 P1 => ∃ r : Int32, v = some (.int r) ∧ post r I1 P1
def qV (post : fw_I → fw_P → Prop) : Option Value → fw_I → fw_P → Prop := fun v I1 P1 => v = none ∧ post I1 P1
def qR (g : fw_G) (r : Option Nat) (I : fw_I) (P : fw_P) : Option Value → fw_I → fw_P → Prop := fun v I1 P1 => v = some (fw_rf g r) ∧ I1 = I ∧ P1 = P
def qS (g : fw_G) (post : Option Nat → fw_I → fw_P → Prop) : Option Value → fw_I → fw_P → Prop := fun v I1 P1 => ∃ r : Option Nat, v = some (fw_rf g r) ∧ post r I1 P1
theorem kI {f : Int32} (h : V l g k T' mc ms Q T I P u w q L (.int f :: st)) : ∀ (v : Option Value) (I1 : fw_I) (P1 : fw_P), qI f I P v I1 P1 → V l g k T' mc ms Q T I1 P1 u w q L (v.toList ++ st) := by
  rintro _ _ _ ⟨rfl, rfl, rfl⟩
  exact h
theorem kJ {post : Int32 → fw_I → fw_P → Prop} (h : ∀ (r : Int32) (I1 : fw_I) (P1 : fw_P), post r I1 P1 → V l g k T' mc ms Q T I1 P1 u w q L (.int r :: st)) : ∀ (v : Option Value) (I1 : fw_I) (P1 : fw_P), qJ post v I1 P1 → V l g k T' mc ms Q T I1 P1 u w q L (v.toList ++ st) := by
  rintro _ I1 P1 ⟨r, rfl, hp⟩
  exact h r I1 P1 hp
theorem kV {post : fw_I → fw_P → Prop} (h : ∀ (I1 : fw_I) (P1 : fw_P), post I1 P1 → V l g k T' mc ms Q T I1 P1 u w q L st) : ∀ (v : Option Value) (I1 : fw_I) (P1 : fw_P), qV post v I1 P1 → V l g k T' mc ms Q T I1 P1 u w q L (v.toList ++ st) := by
  rintro _ I1 P1 ⟨rfl, hp⟩
  exact h I1 P1 hp
theorem kR {r : Option Nat} (h : V l g k T' mc ms Q T I P u w q L (fw_rf g r :: st)) : ∀ (v : Option Value) (I1 : fw_I) (P1 : fw_P), qR g r I P v I1 P1 → V l g k T' mc ms Q T I1 P1 u w q L (v.toList ++ st) := by
  rintro _ _ _ ⟨rfl, rfl, rfl⟩
  exact h
theorem kS {post : Option Nat → fw_I → fw_P → Prop} (h : ∀ (r : Option Nat) (I1 : fw_I) (P1 : fw_P), post r I1 P1 → V l g k T' mc ms Q T I1 P1 u w q L (fw_rf g r :: st)) : ∀ (v : Option Value) (I1 : fw_I) (P1 : fw_P), qS g post v I1 P1 → V l g k T' mc ms Q T I1 P1 u w q L (v.toList ++ st) := by
  rintro _ I1 P1 ⟨r, rfl, hp⟩
  exact h r I1 P1 hp
theorem qI.of {f x : Int32} {I : fw_I} {P : fw_P} (h : x = f) : qI f I P (some (.int x)) I P := ⟨by rw [h], rfl, rfl⟩
end FWM
/-! the cells: 0 the class' object; races at 1, 86, 171 (race, trial, snapshot), the history at 256, its races at 258 + 85 i; script 683, 684; search 685 to 687; the reference's object at 688, its arrays 689 to 696 -/
def tt_p (x : Nat) : Nat × Nat := if x = 0 then (2, 0) else if x = 1 then (13, 16) else (0, 0)
def tt_r (x : Nat) : Nat × Nat := if x = 0 then (3, 0) else if x = 1 then (12, 4) else if x < 74 then tt_p ((x - 2) % 18) else if x = 74 then (14, 10) else (6, 0)
def tt (a : Nat) : Nat × Nat :=
  if a = 0 then (7, 0) else if a < 256 then tt_r ((a - 1) % 85) else if a = 256 then (1, 0) else if a = 257 then (11, 5) else if a < 683 then tt_r ((a - 258) % 85)
  else if a = 683 then (4, 0) else if a = 684 then (9, 60) else if a = 685 then (5, 0) else if a = 686 then (9, 61) else if a = 687 then (9, 61)
  else if a = 688 then (8, 0) else if a = 689 then (9, 392) else if a = 690 then (9, 1960) else if a = 691 then (9, 392) else if a = 692 then (9, 392) else if a = 693 then (9, 60) else if a = 694 then (9, 4) else (10, 61)
def T0 : fw_T := (697, tt)
def isRc (ra : Nat) : Prop := ra ∈ [1, 86, 171, 258, 343, 428, 513, 598]
theorem isRc.cases {p : Nat → Prop} {ra : Nat} (h : isRc ra) (h0 : ∀ x ∈ [1, 86, 171, 258, 343, 428, 513, 598], p x) : p ra := h0 ra h
theorem at_race {ra : Nat} (h : isRc ra) : fw_at T0 ra 3 0 := h.cases (p := fun ra => fw_at T0 ra 3 0) (by unfold fw_at; decide +kernel)
theorem at_pieces {ra : Nat} (h : isRc ra) : fw_at T0 (ra + 1) 12 4 := h.cases (p := fun ra => fw_at T0 (ra + 1) 12 4) (by unfold fw_at; decide +kernel)
theorem at_piece {ra p : Nat} (h : isRc ra) (hp : p < 4) : fw_at T0 (ra + 2 + 18 * p) 2 0 := h.cases (p := fun ra => ∀ p, p < 4 → fw_at T0 (ra + 2 + 18 * p) 2 0) (by unfold fw_at; decide +kernel) p hp
theorem at_bites {ra p : Nat} (h : isRc ra) (hp : p < 4) : fw_at T0 (ra + 3 + 18 * p) 13 16 := h.cases (p := fun ra => ∀ p, p < 4 → fw_at T0 (ra + 3 + 18 * p) 13 16) (by unfold fw_at; decide +kernel) p hp
theorem at_bite {ra p b : Nat} (h : isRc ra) (hp : p < 4) (hb : b < 16) : fw_at T0 (ra + 4 + 18 * p + b) 0 0 := h.cases (p := fun ra => ∀ p, p < 4 → ∀ b, b < 16 → fw_at T0 (ra + 4 + 18 * p + b) 0 0) (by unfold fw_at; decide +kernel) p hp b hb
theorem at_snakes {ra : Nat} (h : isRc ra) : fw_at T0 (ra + 74) 14 10 := h.cases (p := fun ra => fw_at T0 (ra + 74) 14 10) (by unfold fw_at; decide +kernel)
theorem at_snake {ra i : Nat} (h : isRc ra) (hi : i < 10) : fw_at T0 (ra + 75 + i) 6 0 := h.cases (p := fun ra => ∀ i, i < 10 → fw_at T0 (ra + 75 + i) 6 0) (by unfold fw_at; decide +kernel) i hi
theorem at_0 : fw_at T0 0 7 0 := by unfold fw_at; decide +kernel
theorem at_256 : fw_at T0 256 1 0 := by unfold fw_at; decide +kernel
theorem at_257 : fw_at T0 257 11 5 := by unfold fw_at; decide +kernel
theorem at_683 : fw_at T0 683 4 0 := by unfold fw_at; decide +kernel
theorem at_684 : fw_at T0 684 9 60 := by unfold fw_at; decide +kernel
theorem at_685 : fw_at T0 685 5 0 := by unfold fw_at; decide +kernel
theorem at_686 : fw_at T0 686 9 61 := by unfold fw_at; decide +kernel
theorem at_687 : fw_at T0 687 9 61 := by unfold fw_at; decide +kernel
theorem at_688 : fw_at T0 688 8 0 := by unfold fw_at; decide +kernel
theorem at_689 : fw_at T0 689 9 392 := by unfold fw_at; decide +kernel
theorem at_690 : fw_at T0 690 9 1960 := by unfold fw_at; decide +kernel
theorem at_691 : fw_at T0 691 9 392 := by unfold fw_at; decide +kernel
theorem at_692 : fw_at T0 692 9 392 := by unfold fw_at; decide +kernel
theorem at_693 : fw_at T0 693 9 60 := by unfold fw_at; decide +kernel
theorem at_694 : fw_at T0 694 9 4 := by unfold fw_at; decide +kernel
theorem at_695 : fw_at T0 695 10 61 := by unfold fw_at; decide +kernel
theorem at_696 : fw_at T0 696 10 61 := by unfold fw_at; decide +kernel
/-- the reference's own references -/
def MSh (P : fw_P) : Prop := P 688 0 = some 689 ∧ P 688 1 = some 690 ∧ P 688 3 = some 691 ∧ P 688 5 = some 692 ∧ P 688 6 = some 693 ∧ P 688 10 = some 694 ∧ P 688 12 = some 695 ∧ P 688 13 = some 696
/-! numbers -/
theorem nI_mul (a b : Nat) : nI a * nI b = nI (a * b) := (Int32.ofNat_mul a b).symm
theorem nI_sub {a b : Nat} (h : b ≤ a) : nI a - nI b = nI (a - b) := by
  have h1 : nI (a - b) + nI b = nI a := by rw [nI_add, Nat.sub_add_cancel h]
  rw [← h1, Int32.add_sub_cancel]
def bI (p : Prop) [Decidable p] : Int32 := if p then 1 else 0
theorem bI_t {p : Prop} [Decidable p] (h : p) : bI p = 1 := if_pos h
theorem bI_f {p : Prop} [Decidable p] (h : ¬ p) : bI p = 0 := if_neg h
theorem bI_cases (p : Prop) [Decidable p] : (p ∧ bI p = 1) ∨ (¬ p ∧ bI p = 0) := by
  by_cases h : p
  · exact Or.inl ⟨h, bI_t h⟩
  · exact Or.inr ⟨h, bI_f h⟩
theorem bI_nz {p : Prop} [Decidable p] (h : ¬ bI p = 0) : p := by
  by_cases hp : p
  · exact hp
  · exact absurd (bI_f hp) h
theorem bI_z {p : Prop} [Decidable p] (h : bI p = 0) : ¬ p := by
  intro hp
  rw [bI_t hp] at h
  cases h
theorem bI_narrow (p : Prop) [Decidable p] : narrow .boolean (.int (bI p)) = .int (bI p) := by
  by_cases h : p
  · rw [bI_t h]; rfl
  · rw [bI_f h]; rfl
theorem bI_congr {p q : Prop} [Decidable p] [Decidable q] (h : p ↔ q) : bI p = bI q := by
  by_cases hp : p
  · rw [bI_t hp, bI_t (h.mp hp)]
  · rw [bI_f hp, bI_f (fun hq => hp (h.mpr hq))]
theorem i32_le {a b : Int32} : a ≤ b ↔ a.toInt ≤ b.toInt := Int32.le_iff_toInt_le
theorem i32_lt {a b : Int32} : a < b ↔ a.toInt < b.toInt := Int32.lt_iff_toInt_lt
end
section
/-! the abstract race: a row s of 392 numbers, as the reference lays it; what is read off it -/
def ro (s : Nat → Int32) (p f : Nat) : Int32 := s (8 + 6 * p + f)
def wi (p k : Nat) : Nat := 32 + 4 * (20 * p + k)
def sn (s : Nat → Int32) (k f : Nat) : Int32 := s (352 + 4 * k + f)
abbrev aPl (x : Int32) : Prop := 0 ≤ x ∧ x ≤ 3
abbrev aBt (s : Nat → Int32) (x y : Int32) : Prop := aPl x ∧ (0 ≤ y ∧ y ≤ ro s x.toNatClampNeg 5 - 1)
abbrev aSk (s : Nat → Int32) (x : Int32) : Prop := (0 ≤ x ∧ x ≤ 9) ∧ 0 < sn s x.toNatClampNeg 0
def aGo (q d : Int32) : Int32 := if q + d ≤ 60 then q + d else 120 - q - d
def aDraw (x : Int32) : Int32 := (25173 * x + 13849) - (25173 * x + 13849) / 65536 * 65536
def aDice (x : Int32) : Int32 := 1 + x / 10923
/-- the last snake below k with its head on q; -5 if there is none -/
def aSnF (s : Nat → Int32) (q : Int32) : Nat → Int32
  | 0 => -5
  | k + 1 => if sn s k 0 = q ∧ 0 < q then nI k else aSnF s q k
def aSnAt (s : Nat → Int32) (q : Int32) : Int32 := aSnF s q 10
def aCntF (s : Nat → Int32) : Nat → Int32
  | 0 => 0
  | k + 1 => aCntF s k + bI (0 < sn s k 0)
def aHuF (s : Nat → Int32) (p : Nat) : Nat → Int32
  | 0 => 0
  | k + 1 => aHuF s p k + s (wi p k)
/-- how many bites a player holds -/
def aMany (s : Nat → Int32) (p : Nat) : Nat := (ro s p 5).toNatClampNeg
def aHu (s : Nat → Int32) (p : Nat) : Int32 := aHuF s p (aMany s p)
def aBeg (s : Nat → Int32) (p : Nat) : Int32 := if 0 ≤ ro s p 0 - aHu s p then ro s p 0 - aHu s p else 0
def aPiF (s : Nat → Int32) (q : Int32) : Nat → Int32
  | 0 => 0
  | p + 1 => aPiF s q p ||| (if ro s p 0 = q then 1 <<< (nI p &&& 31) else 0)
def aPi (s : Nat → Int32) (q : Int32) : Int32 := aPiF s q 4
abbrev aBites (s : Nat → Int32) (p : Nat) (q : Int32) : Prop := ¬ aSnAt s q = -5 ∧ sn s (aSnAt s q).toNatClampNeg 2 = 0 ∧ aPi s q &&& (1 <<< (nI p &&& 31) ^^^ (-1)) = 0
theorem aSnF_cases (s : Nat → Int32) (q : Int32) : ∀ n, aSnF s q n = -5 ∨ ∃ k, k < n ∧ aSnF s q n = nI k ∧ sn s k 0 = q ∧ 0 < q
  | 0 => Or.inl rfl
  | n + 1 => by
    unfold aSnF
    by_cases h : sn s n 0 = q ∧ 0 < q
    · rw [if_pos h]; exact Or.inr ⟨n, by omega, rfl, h⟩
    · rw [if_neg h]
      rcases aSnF_cases s q n with h1 | ⟨k, h1, h2⟩
      · exact Or.inl h1
      · exact Or.inr ⟨k, by omega, h2⟩
/-- what is so for a row's bites to be read: no more than twenty a player -/
def mOk (s : Nat → Int32) : Prop := ∀ p, p < 4 → ∃ n, n < 20 ∧ ro s p 5 = nI n
theorem mOk.many {s : Nat → Int32} (h : mOk s) {p : Nat} (hp : p < 4) : aMany s p < 20 ∧ ro s p 5 = nI (aMany s p) := by
  obtain ⟨n, hn, e⟩ := h p hp
  unfold aMany
  rw [e, nI_clamp (by omega)]
  exact ⟨hn, rfl⟩
theorem aPl.nat {x : Int32} (h : aPl x) : ∃ p, p < 4 ∧ x = nI p := by
  obtain ⟨j, h1, h2⟩ := nI_of2 (M := 3) (n := 3) rfl (by rw [i32_lt]; have := i32_le.mp h.1; simp at this ⊢; omega) h.2
  exact ⟨j, by omega, h2⟩
theorem ix_of {p w : Nat} (hp : p < 4) (hw : w < 6) : fw_ix (8 + 6 * nI p + nI w) (8 + 6 * p + w) 392 := by
  rw [show (8 : Int32) = nI 8 from rfl, show (6 : Int32) = nI 6 from rfl, nI_mul, nI_add, nI_add]
  exact fw_ix_nI (by omega) (by omega)
theorem ix_sn {k w : Nat} (hk : k < 10) (hw : w < 4) : fw_ix (352 + 4 * nI k + nI w) (352 + 4 * k + w) 392 := by
  rw [show (352 : Int32) = nI 352 from rfl, show (4 : Int32) = nI 4 from rfl, nI_mul, nI_add, nI_add]
  exact fw_ix_nI (by omega) (by omega)
theorem wi_nI (p k : Nat) : (32 : Int32) + 4 * (20 * nI p + nI k) = nI (wi p k) := by
  rw [show (32 : Int32) = nI 32 from rfl, show (4 : Int32) = nI 4 from rfl, show (20 : Int32) = nI 20 from rfl, nI_mul, nI_add, nI_mul, nI_add]
  rfl
theorem wi_lt {p k : Nat} (hp : p < 4) (hk : k < 20) : wi p k + 3 < 352 := by unfold wi; omega
theorem ix_wi {p k f : Nat} (hp : p < 4) (hk : k < 20) (hf : f < 4) : fw_ix (nI (wi p k) + nI f) (wi p k + f) 392 := by
  rw [nI_add]
  have := wi_lt hp hk
  exact fw_ix_nI (by omega) (by omega)
/-! one array of the memory by itself -/
def wr (I : fw_I) (a : Nat) (s : Nat → Int32) : fw_I := fun b => if b = a then s else I b
theorem wr_at (I : fw_I) (a : Nat) (s : Nat → Int32) : wr I a s a = s := by simp [wr]
theorem wr_ne (I : fw_I) {a b : Nat} (s : Nat → Int32) (h : b ≠ a) : wr I a s b = I b := by simp [wr, h]
theorem wr_self (I : fw_I) (a : Nat) : wr I a (I a) = I := by
  funext b
  by_cases h : b = a
  · subst h; exact wr_at I b _
  · exact wr_ne I _ h
theorem wr_wr (I : fw_I) (a : Nat) (s t : Nat → Int32) : wr (wr I a s) a t = wr I a t := by
  funext b
  by_cases h : b = a
  · subst h; rw [wr_at, wr_at]
  · rw [wr_ne _ _ h, wr_ne _ _ h, wr_ne _ _ h]
theorem up2_wr (I : fw_I) (a : Nat) (s : Nat → Int32) (j : Nat) (x : Int32) : up2 (wr I a s) a j x = wr I a (upd s j x) := by
  funext b
  by_cases h : b = a
  · subst h; rw [wr_at, up2_row, wr_at]; rfl
  · rw [wr_ne _ _ h, up2_ne _ _ _ h, wr_ne _ _ h]
theorem up2_to (I : fw_I) (a : Nat) (j : Nat) (x : Int32) : up2 I a j x = wr I a (upd (I a) j x) := by
  have h := up2_wr I a (I a) j x
  rwa [wr_self] at h
section FWW
variable {l : Launch} {g : fw_G} {k : fw_M} {T T' : fw_T} {mc ms : Nat} {Q : Option Value → fw_I → fw_P → Prop} {I I' : fw_I} {P : fw_P} {u w pc q : Nat} {L L' : List (Option Value)} {st : List Value} {s : Nat → Int32}
theorem V_mem (h : I = I') (kk : V l g k T' mc ms Q T I' P u w pc L st) : V l g k T' mc ms Q T I P u w pc L st := h ▸ kk
theorem V_iald9 {a n j : Nat} {i : Int32} (hT : fw_at T a 9 n) (hi : fw_ix i j n) (hd : decode k.2.1 pc = .ok (.iaload, 1)) (hq : pc + 1 = q) (kk : V l g k T' mc ms Q T (wr I a s) P u w q L (.int (s j) :: st)) : V l g k T' mc ms Q T (wr I a s) P u w pc L (.int i :: .ref (g.1 + a) :: st) := by
  refine V_iald hT hi hd hq ?_
  rw [wr_at]
  exact kk
theorem V_iast9 {a n j : Nat} {i x : Int32} (hT : fw_at T a 9 n) (hi : fw_ix i j n) (hd : decode k.2.1 pc = .ok (.iastore, 1)) (hq : pc + 1 = q) (kk : V l g k T' mc ms Q T (wr I a (upd s j x)) P u w q L st) : V l g k T' mc ms Q T (wr I a s) P u w pc L (.int x :: .int i :: .ref (g.1 + a) :: st) := by
  refine V_iast hT hi hd hq ?_
  rw [up2_wr]
  exact kk
end FWW
/-! what a turn and a sale do to the row -/
def aAdd (s : Nat → Int32) (p f : Nat) (x : Int32) : Nat → Int32 := upd s (8 + 6 * p + f) (ro s p f + x)
def aGet (s : Nat → Int32) (p : Nat) (size : Int32) : Nat → Int32 :=
  let w := wi p (aMany s p)
  let s4 := upd (upd (upd (upd s (w + 0) size) (w + 1) 0) (w + 2) (nI p)) (w + 3) (1 <<< (nI p &&& 31))
  let s6 := aAdd (aAdd s4 p 5 1) p 3 1
  upd s6 2 (s6 2 + 1)
def aBit (s : Nat → Int32) (p : Nat) (q : Int32) : Nat → Int32 :=
  let w := 352 + 4 * (aSnAt s q).toNatClampNeg
  let s1 := aGet s p (s (w + 0) - s (w + 1))
  let s2 := upd s1 (w + 2) (s1 5 + 1)
  upd s2 (w + 3) (s2 (w + 3) + 1)
def aSlF (s : Nat → Int32) : Nat → Nat → Int32
  | 0 => s
  | k + 1 => upd (aSlF s k) (352 + 4 * k + 2) (aSlF s k (352 + 4 * k + 2) - bI (0 < sn (aSlF s k) k 2))
def aRem4 (x : Int32) : Int32 := x - x / 4 * 4
def aNoF : Nat → Nat → (Nat → Int32) → Nat → Int32
  | 0, _, s => s
  | n + 1, k, s => if s 4 = 4 then s else if k = 0 ∨ ¬ ro s (s 1).toNatClampNeg 2 = 0 then aNoF n (k + 1) (upd s 1 (aRem4 (s 1 + 1))) else s
def aT1 (s : Nat → Int32) (p : Nat) : Nat → Int32 := aAdd s p 4 (ro s p 0 - aBeg s p)
def aT2 (s : Nat → Int32) (p : Nat) : Nat → Int32 := aAdd (aT1 s p) p 5 (- ro (aT1 s p) p 5)
def aT3 (s : Nat → Int32) (p : Nat) (q : Int32) : Nat → Int32 := aAdd (aT2 s p) p 0 (q - ro (aT2 s p) p 0)
def aT4 (s : Nat → Int32) (p : Nat) (q : Int32) : Nat → Int32 := if aBites (aT3 s p q) p q then aBit (aT3 s p q) p q else aT3 s p q
def aHome (s : Nat → Int32) (p : Nat) : Nat → Int32 := aAdd (upd s 4 (s 4 + 1)) p 2 (upd s 4 (s 4 + 1) 4)
def aT5 (s : Nat → Int32) (p : Nat) (q : Int32) : Nat → Int32 := if q = 60 then aHome (aT4 s p q) p else aT4 s p q
def aT6 (s : Nat → Int32) (p : Nat) (q : Int32) : Nat → Int32 := aSlF (aT5 s p q) 10
def aT7 (s : Nat → Int32) (p : Nat) (q : Int32) : Nat → Int32 := upd (aT6 s p q) 0 (aT6 s p q 0 + 1)
/-- the square to which a turn comes, and the row behind it -/
def aTq (s : Nat → Int32) (d : Int32) : Int32 := aGo (aBeg s (s 1).toNatClampNeg) d
def aT (s : Nat → Int32) (d : Int32) : Nat → Int32 := aNoF 4 0 (aT7 s (s 1).toNatClampNeg (aTq s d))
def aAsk (s : Nat → Int32) (size : Int32) (p : Nat) : Int32 := (size + 2) / 3 + 2 * ro s p 5
def aRea (s : Nat → Int32) (p k b : Nat) (c : Int32) : Int32 :=
  if ¬ ro s b 2 = 0 then 1 else if s 7 ≤ s (wi p k + 1) then 2 else if s (wi p k + 3) >>> (nI b &&& 31) &&& 1 = 1 then 3 else if ro s p 1 - c < - s 6 then 4 else if c < aAsk s (s (wi p k + 0)) b then 5 else 0
def aSeE (s : Nat → Int32) (x y z c : Int32) : Int32 := if ¬ (aBt s x y ∧ aPl z) then -1 else if (0 ≤ c ∧ c ≤ 99) ∧ ¬ x = z then 0 else -2
def aCp (s : Nat → Int32) (to fr : Nat) : Nat → Nat → Int32
  | 0 => s
  | j + 1 => upd (aCp s to fr j) (to + j) (aCp s to fr j (fr + j))
def aSh : Nat → Nat → (Nat → Int32) → Nat → Int32
  | 0, _, s => s
  | n + 1, j, s => aSh n (j + 1) (upd s j (s (j + 4)))
def aS3 (s : Nat → Int32) (p k b : Nat) : Nat → Int32 :=
  let t := wi b (aMany s b)
  let s1 := aCp s t (wi p k) 4
  let s2 := upd s1 (t + 1) (s1 (t + 1) + 1)
  upd s2 (t + 3) (s2 (t + 3) ||| 1 <<< (nI b &&& 31))
def aS5 (s : Nat → Int32) (p k b : Nat) : Nat → Int32 := aAdd (aAdd (aS3 s p k b) b 5 1) p 5 (-1)
def aS6 (s : Nat → Int32) (p k b : Nat) : Nat → Int32 := aSh (4 * (aMany s p - 1 - k)) (wi p k) (aS5 s p k b)
def aS (s : Nat → Int32) (p k b : Nat) (c : Int32) : Nat → Int32 :=
  let s8 := aAdd (aAdd (aS6 s p k b) p 1 (-c)) b 1 c
  upd s8 3 (s8 3 + 1)
end
section
theorem nI_le9 {x : Int32} (h : 0 ≤ x ∧ x ≤ 9) : ∃ p, p < 10 ∧ x = nI p := by
  obtain ⟨j, h1, h2⟩ := nI_of2 (M := 9) (n := 9) rfl (by rw [i32_lt]; have := i32_le.mp h.1; simp at this ⊢; omega) h.2
  exact ⟨j, by omega, h2⟩
set_option maxHeartbeats 4000000 in
set_option maxRecDepth 100000 in
theorem sp_in (l : Launch) (g : fw_G) (I : fw_I) (P : fw_P) (a b c : Int32) : Sp l g kX8_in T0 [.int a, .int b, .int c] I P T0 0 0 (qI (bI (b ≤ a ∧ a ≤ c)) I P) := by
  refine Sp.of_V (L := [some (.int a), some (.int b), some (.int c)]) (by decide) (by simp [Value.category]) (Nat.le_of_ble_eq_true rfl) rfl ?_
  refine V_iload_n (i := 0) rfl rfl dX8_in_0 rfl ?_
  refine V_iload_n (i := 1) rfl rfl dX8_in_1 rfl ?_
  refine V_icmp_lt (tgt := 14) dX8_in_2 (by decide) rfl (fun h_2 => ?_) (fun h_2 => ?_)
  · refine V_iconst (v := 0) (by decide) dX8_in_14 rfl ?_
    exact V_ireturn rfl (by decide) dX8_in_15 rfl rfl rfl (qI.of (by first | exact (bI_t ⟨Int32.not_lt.mp h_2, Int32.not_lt.mp h_7⟩).symm | exact (bI_f (fun h => absurd h_2 (Int32.not_lt.mpr h.1))).symm | exact (bI_f (fun h => absurd h_7 (Int32.not_lt.mpr h.2))).symm))
  · refine V_iload_n (i := 0) rfl rfl dX8_in_5 rfl ?_
    refine V_iload_n (i := 2) rfl rfl dX8_in_6 rfl ?_
    refine V_icmp_gt (tgt := 14) dX8_in_7 (by decide) rfl (fun h_7 => ?_) (fun h_7 => ?_)
    · refine V_iconst (v := 0) (by decide) dX8_in_14 rfl ?_
      exact V_ireturn rfl (by decide) dX8_in_15 rfl rfl rfl (qI.of (by first | exact (bI_t ⟨Int32.not_lt.mp h_2, Int32.not_lt.mp h_7⟩).symm | exact (bI_f (fun h => absurd h_2 (Int32.not_lt.mpr h.1))).symm | exact (bI_f (fun h => absurd h_7 (Int32.not_lt.mpr h.2))).symm))
    · refine V_iconst (v := 1) (by decide) dX8_in_10 rfl ?_
      refine V_goto (tgt := 15) dX8_in_11 (by decide) ?_
      exact V_ireturn rfl (by decide) dX8_in_15 rfl rfl rfl (qI.of (by first | exact (bI_t ⟨Int32.not_lt.mp h_2, Int32.not_lt.mp h_7⟩).symm | exact (bI_f (fun h => absurd h_2 (Int32.not_lt.mpr h.1))).symm | exact (bI_f (fun h => absurd h_7 (Int32.not_lt.mpr h.2))).symm))

set_option maxHeartbeats 4000000 in
set_option maxRecDepth 100000 in
theorem sp_isPlayer (l : Launch) (g : fw_G) (I : fw_I) (P : fw_P) (a : Int32) : Sp l g kX8_isPlayer T0 [.int a] I P T0 0 0 (qI (bI (aPl a)) I P) := by
  refine Sp.of_V (L := [some (.int a)]) (by decide) (by simp [Value.category]) (Nat.le_of_ble_eq_true rfl) rfl ?_
  refine V_iload_n (i := 0) rfl rfl dX8_isPlayer_0 rfl ?_
  refine V_iconst (v := 0) (by decide) dX8_isPlayer_1 rfl ?_
  refine V_iconst (v := 3) (by decide) dX8_isPlayer_2 rfl ?_
  refine V_callS (n := 3) (sp_in l g _ P a 0 3) o_X8_in m_X8_35 ⟨by decide, by decide⟩ rfl rfl (by first | exact Nat.le_of_ble_eq_true rfl | simp [Value.category]) (Nat.le_refl _) (Nat.le_refl _) rfl dX8_isPlayer_3 rfl (kI ?_)
  exact V_ireturn rfl (bI_narrow _) dX8_isPlayer_6 rfl rfl rfl (qI.of rfl)

set_option maxHeartbeats 4000000 in
set_option maxRecDepth 100000 in
theorem sp_of (l : Launch) (g : fw_G) {I : fw_I} {P : fw_P} {s : Nat → Int32} (hM : MSh P) {p w : Nat} (hp : p < 4) (hw : w < 6) : Sp l g kX8_of T0 [.ref (g.1 + 688), .int (nI p), .int (nI w)] (wr I 689 s) P T0 0 0 (qI (ro s p w) (wr I 689 s) P) := by
  have a688 := at_688
  have a689 := at_689
  obtain ⟨p0, p1, p3, p5, p6, p10, p12, p13⟩ := id hM
  refine Sp.of_V (L := [some (.ref (g.1 + 688)), some (.int (nI p)), some (.int (nI w))]) (by decide) (by simp [Value.category]) (Nat.le_of_ble_eq_true rfl) rfl ?_
  refine V_aload_n (i := 0) rfl rfl dX8_of_0 rfl ?_
  refine V_getr (kf := 0) C8 (by decide) l_X8_7 (by assumption) rfl (by assumption) dX8_of_1 rfl ?_
  refine V_bipush (v := 8) (by decide) dX8_of_4 rfl ?_
  refine V_bipush (v := 6) (by decide) dX8_of_6 rfl ?_
  refine V_iload_n (i := 1) rfl rfl dX8_of_8 rfl ?_
  refine V_imul dX8_of_9 rfl ?_
  refine V_iadd dX8_of_10 rfl ?_
  refine V_iload_n (i := 2) rfl rfl dX8_of_11 rfl ?_
  refine V_iadd dX8_of_12 rfl ?_
  refine V_iald9 (by assumption) (ix_of hp hw) dX8_of_13 rfl ?_
  exact V_ireturn rfl rfl dX8_of_14 rfl rfl rfl (qI.of rfl)

set_option maxHeartbeats 4000000 in
set_option maxRecDepth 100000 in
theorem sp_add (l : Launch) (g : fw_G) {I : fw_I} {P : fw_P} {s : Nat → Int32} (hM : MSh P) {p w : Nat} (x : Int32) (hp : p < 4) (hw : w < 6) : Sp l g kX8_add T0 [.ref (g.1 + 688), .int (nI p), .int (nI w), .int x] (wr I 689 s) P T0 0 0 (qV (fun I1 P1 => I1 = wr I 689 (aAdd s p w x) ∧ P1 = P)) := by
  have a688 := at_688
  have a689 := at_689
  obtain ⟨p0, p1, p3, p5, p6, p10, p12, p13⟩ := id hM
  refine Sp.of_V (L := [some (.ref (g.1 + 688)), some (.int (nI p)), some (.int (nI w)), some (.int x)]) (by decide) (by simp [Value.category]) (Nat.le_of_ble_eq_true rfl) rfl ?_
  refine V_aload_n (i := 0) rfl rfl dX8_add_0 rfl ?_
  refine V_getr (kf := 0) C8 (by decide) l_X8_7 (by assumption) rfl (by assumption) dX8_add_1 rfl ?_
  refine V_bipush (v := 8) (by decide) dX8_add_4 rfl ?_
  refine V_bipush (v := 6) (by decide) dX8_add_6 rfl ?_
  refine V_iload_n (i := 1) rfl rfl dX8_add_8 rfl ?_
  refine V_imul dX8_add_9 rfl ?_
  refine V_iadd dX8_add_10 rfl ?_
  refine V_iload_n (i := 2) rfl rfl dX8_add_11 rfl ?_
  refine V_iadd dX8_add_12 rfl ?_
  refine V_dup2 rfl rfl dX8_add_13 rfl ?_
  refine V_iald9 (by assumption) (ix_of hp hw) dX8_add_14 rfl ?_
  refine V_iload_n (i := 3) rfl rfl dX8_add_15 rfl ?_
  refine V_iadd dX8_add_16 rfl ?_
  refine V_iast9 (by assumption) (ix_of hp hw) dX8_add_17 rfl ?_
  exact V_return rfl dX8_add_18 rfl rfl rfl (⟨rfl, rfl, rfl⟩)

set_option maxHeartbeats 4000000 in
set_option maxRecDepth 100000 in
theorem sp_whereIs (l : Launch) (g : fw_G) (I : fw_I) (P : fw_P) (p k : Nat) : Sp l g kX8_whereIs T0 [.int (nI p), .int (nI k)] I P T0 0 0 (qI (nI (wi p k)) I P) := by
  refine Sp.of_V (L := [some (.int (nI p)), some (.int (nI k))]) (by decide) (by simp [Value.category]) (Nat.le_of_ble_eq_true rfl) rfl ?_
  refine V_bipush (v := 32) (by decide) dX8_whereIs_0 rfl ?_
  refine V_iconst (v := 4) (by decide) dX8_whereIs_2 rfl ?_
  refine V_bipush (v := 20) (by decide) dX8_whereIs_3 rfl ?_
  refine V_iload_n (i := 0) rfl rfl dX8_whereIs_5 rfl ?_
  refine V_imul dX8_whereIs_6 rfl ?_
  refine V_iload_n (i := 1) rfl rfl dX8_whereIs_7 rfl ?_
  refine V_iadd dX8_whereIs_8 rfl ?_
  refine V_imul dX8_whereIs_9 rfl ?_
  refine V_iadd dX8_whereIs_10 rfl ?_
  exact V_ireturn rfl rfl dX8_whereIs_11 rfl rfl rfl (qI.of (wi_nI p k))

set_option maxHeartbeats 4000000 in
set_option maxRecDepth 100000 in
theorem sp_isBite (l : Launch) (g : fw_G) {I : fw_I} {P : fw_P} {s : Nat → Int32} (hM : MSh P) (x y : Int32) : Sp l g kX8_isBite T0 [.ref (g.1 + 688), .int x, .int y] (wr I 689 s) P T0 0 0 (qI (bI (aBt s x y)) (wr I 689 s) P) := by
  have a688 := at_688
  have a689 := at_689
  obtain ⟨p0, p1, p3, p5, p6, p10, p12, p13⟩ := id hM
  refine Sp.of_V (L := [some (.ref (g.1 + 688)), some (.int x), some (.int y)]) (by decide) (by simp [Value.category]) (Nat.le_of_ble_eq_true rfl) rfl ?_
  refine V_iload_n (i := 1) rfl rfl dX8_isBite_0 rfl ?_
  refine V_callS (n := 1) (sp_isPlayer l g _ P x) o_X8_isPlayer m_X8_39 ⟨by decide, by decide⟩ rfl rfl (by first | exact Nat.le_of_ble_eq_true rfl | simp [Value.category]) (Nat.le_refl _) (Nat.le_refl _) rfl dX8_isBite_1 rfl (kI ?_)
  refine V_if_eq (tgt := 27) dX8_isBite_4 (by decide) rfl (fun h_4 => ?_) (fun h_4 => ?_)
  · refine V_iconst (v := 0) (by decide) dX8_isBite_27 rfl ?_
    exact V_ireturn rfl (by decide) dX8_isBite_28 rfl rfl rfl (qI.of (by first | exact (bI_t ⟨bI_nz h_4, by rw [hc]; exact bI_nz h_20⟩).symm | exact (bI_f (fun h => bI_z h_20 (by have h2 := h.2; rw [hc] at h2; exact h2))).symm | exact (bI_f (fun h => bI_z h_4 h.1)).symm))
  · obtain ⟨p, hp, rfl⟩ := aPl.nat (bI_nz h_4)
    have hc : (nI p).toNatClampNeg = p := nI_clamp (by omega)
    refine V_iload_n (i := 2) rfl rfl dX8_isBite_7 rfl ?_
    refine V_iconst (v := 0) (by decide) dX8_isBite_8 rfl ?_
    refine V_aload_n (i := 0) rfl rfl dX8_isBite_9 rfl ?_
    refine V_iload_n (i := 1) rfl rfl dX8_isBite_10 rfl ?_
    refine V_iconst (v := 5) (by decide) dX8_isBite_11 rfl ?_
    refine V_call (n := 2) (sp_of l g hM hp (by decide : 5 < 6)) o_X8_of m_X8_43 ⟨by decide, by decide⟩ (by assumption) rfl rfl (by first | exact Nat.le_of_ble_eq_true rfl | simp [Value.category]) (Nat.le_refl _) (Nat.le_refl _) rfl dX8_isBite_12 rfl (kI ?_)
    refine V_iconst (v := 1) (by decide) dX8_isBite_15 rfl ?_
    refine V_isub dX8_isBite_16 rfl ?_
    refine V_callS (n := 3) (sp_in l g _ P y 0 (ro s p 5 - 1)) o_X8_in m_X8_35 ⟨by decide, by decide⟩ rfl rfl (by first | exact Nat.le_of_ble_eq_true rfl | simp [Value.category]) (Nat.le_refl _) (Nat.le_refl _) rfl dX8_isBite_17 rfl (kI ?_)
    refine V_if_eq (tgt := 27) dX8_isBite_20 (by decide) rfl (fun h_20 => ?_) (fun h_20 => ?_)
    · refine V_iconst (v := 0) (by decide) dX8_isBite_27 rfl ?_
      exact V_ireturn rfl (by decide) dX8_isBite_28 rfl rfl rfl (qI.of (by first | exact (bI_t ⟨bI_nz h_4, by rw [hc]; exact bI_nz h_20⟩).symm | exact (bI_f (fun h => bI_z h_20 (by have h2 := h.2; rw [hc] at h2; exact h2))).symm | exact (bI_f (fun h => bI_z h_4 h.1)).symm))
    · refine V_iconst (v := 1) (by decide) dX8_isBite_23 rfl ?_
      refine V_goto (tgt := 28) dX8_isBite_24 (by decide) ?_
      exact V_ireturn rfl (by decide) dX8_isBite_28 rfl rfl rfl (qI.of (by first | exact (bI_t ⟨bI_nz h_4, by rw [hc]; exact bI_nz h_20⟩).symm | exact (bI_f (fun h => bI_z h_20 (by have h2 := h.2; rw [hc] at h2; exact h2))).symm | exact (bI_f (fun h => bI_z h_4 h.1)).symm))

set_option maxHeartbeats 4000000 in
set_option maxRecDepth 100000 in
theorem sp_ofSnake (l : Launch) (g : fw_G) {I : fw_I} {P : fw_P} {s : Nat → Int32} (hM : MSh P) {k w : Nat} (hk : k < 10) (hw : w < 4) : Sp l g kX8_ofSnake T0 [.ref (g.1 + 688), .int (nI k), .int (nI w)] (wr I 689 s) P T0 0 0 (qI (sn s k w) (wr I 689 s) P) := by
  have a688 := at_688
  have a689 := at_689
  obtain ⟨p0, p1, p3, p5, p6, p10, p12, p13⟩ := id hM
  refine Sp.of_V (L := [some (.ref (g.1 + 688)), some (.int (nI k)), some (.int (nI w))]) (by decide) (by simp [Value.category]) (Nat.le_of_ble_eq_true rfl) rfl ?_
  refine V_aload_n (i := 0) rfl rfl dX8_ofSnake_0 rfl ?_
  refine V_getr (kf := 0) C8 (by decide) l_X8_7 (by assumption) rfl (by assumption) dX8_ofSnake_1 rfl ?_
  refine V_sipush (v := 352) (by decide) dX8_ofSnake_4 rfl ?_
  refine V_iconst (v := 4) (by decide) dX8_ofSnake_7 rfl ?_
  refine V_iload_n (i := 1) rfl rfl dX8_ofSnake_8 rfl ?_
  refine V_imul dX8_ofSnake_9 rfl ?_
  refine V_iadd dX8_ofSnake_10 rfl ?_
  refine V_iload_n (i := 2) rfl rfl dX8_ofSnake_11 rfl ?_
  refine V_iadd dX8_ofSnake_12 rfl ?_
  refine V_iald9 (by assumption) (ix_sn hk hw) dX8_ofSnake_13 rfl ?_
  exact V_ireturn rfl rfl dX8_ofSnake_14 rfl rfl rfl (qI.of rfl)

set_option maxHeartbeats 4000000 in
set_option maxRecDepth 100000 in
theorem sp_isSnake (l : Launch) (g : fw_G) {I : fw_I} {P : fw_P} {s : Nat → Int32} (hM : MSh P) (x : Int32) : Sp l g kX8_isSnake T0 [.ref (g.1 + 688), .int x] (wr I 689 s) P T0 0 0 (qI (bI (aSk s x)) (wr I 689 s) P) := by
  have a688 := at_688
  have a689 := at_689
  obtain ⟨p0, p1, p3, p5, p6, p10, p12, p13⟩ := id hM
  refine Sp.of_V (L := [some (.ref (g.1 + 688)), some (.int x)]) (by decide) (by simp [Value.category]) (Nat.le_of_ble_eq_true rfl) rfl ?_
  refine V_iload_n (i := 1) rfl rfl dX8_isSnake_0 rfl ?_
  refine V_iconst (v := 0) (by decide) dX8_isSnake_1 rfl ?_
  refine V_bipush (v := 9) (by decide) dX8_isSnake_2 rfl ?_
  refine V_callS (n := 3) (sp_in l g _ P x 0 9) o_X8_in m_X8_35 ⟨by decide, by decide⟩ rfl rfl (by first | exact Nat.le_of_ble_eq_true rfl | simp [Value.category]) (Nat.le_refl _) (Nat.le_refl _) rfl dX8_isSnake_4 rfl (kI ?_)
  refine V_if_eq (tgt := 23) dX8_isSnake_7 (by decide) rfl (fun h_7 => ?_) (fun h_7 => ?_)
  · refine V_iconst (v := 0) (by decide) dX8_isSnake_23 rfl ?_
    exact V_ireturn rfl (by decide) dX8_isSnake_24 rfl rfl rfl (qI.of (by first | exact (bI_t ⟨bI_nz h_7, by rw [hc]; exact Int32.not_le.mp h_16⟩).symm | exact (bI_f (fun h => absurd h_16 (Int32.not_le.mpr (by have h2 := h.2; rw [hc] at h2; exact h2)))).symm | exact (bI_f (fun h => bI_z h_7 h.1)).symm))
  · obtain ⟨k, hk, rfl⟩ := nI_le9 (bI_nz h_7)
    have hc : (nI k).toNatClampNeg = k := nI_clamp (by omega)
    refine V_aload_n (i := 0) rfl rfl dX8_isSnake_10 rfl ?_
    refine V_iload_n (i := 1) rfl rfl dX8_isSnake_11 rfl ?_
    refine V_iconst (v := 0) (by decide) dX8_isSnake_12 rfl ?_
    refine V_call (n := 2) (sp_ofSnake l g hM hk (by decide : 0 < 4)) o_X8_ofSnake m_X8_47 ⟨by decide, by decide⟩ (by assumption) rfl rfl (by first | exact Nat.le_of_ble_eq_true rfl | simp [Value.category]) (Nat.le_refl _) (Nat.le_refl _) rfl dX8_isSnake_13 rfl (kI ?_)
    refine V_if_le (tgt := 23) dX8_isSnake_16 (by decide) rfl (fun h_16 => ?_) (fun h_16 => ?_)
    · refine V_iconst (v := 0) (by decide) dX8_isSnake_23 rfl ?_
      exact V_ireturn rfl (by decide) dX8_isSnake_24 rfl rfl rfl (qI.of (by first | exact (bI_t ⟨bI_nz h_7, by rw [hc]; exact Int32.not_le.mp h_16⟩).symm | exact (bI_f (fun h => absurd h_16 (Int32.not_le.mpr (by have h2 := h.2; rw [hc] at h2; exact h2)))).symm | exact (bI_f (fun h => bI_z h_7 h.1)).symm))
    · refine V_iconst (v := 1) (by decide) dX8_isSnake_19 rfl ?_
      refine V_goto (tgt := 24) dX8_isSnake_20 (by decide) ?_
      exact V_ireturn rfl (by decide) dX8_isSnake_24 rfl rfl rfl (qI.of (by first | exact (bI_t ⟨bI_nz h_7, by rw [hc]; exact Int32.not_le.mp h_16⟩).symm | exact (bI_f (fun h => absurd h_16 (Int32.not_le.mpr (by have h2 := h.2; rw [hc] at h2; exact h2)))).symm | exact (bI_f (fun h => bI_z h_7 h.1)).symm))

set_option maxHeartbeats 4000000 in
set_option maxRecDepth 100000 in
theorem sp_isIn (l : Launch) (g : fw_G) {I : fw_I} {P : fw_P} {s : Nat → Int32} (hM : MSh P) {p : Nat} (hp : p < 4) : Sp l g kX8_isIn T0 [.ref (g.1 + 688), .int (nI p)] (wr I 689 s) P T0 0 0 (qI (bI (ro s p 2 = 0)) (wr I 689 s) P) := by
  have a688 := at_688
  have a689 := at_689
  obtain ⟨p0, p1, p3, p5, p6, p10, p12, p13⟩ := id hM
  refine Sp.of_V (L := [some (.ref (g.1 + 688)), some (.int (nI p))]) (by decide) (by simp [Value.category]) (Nat.le_of_ble_eq_true rfl) rfl ?_
  refine V_aload_n (i := 0) rfl rfl dX8_isIn_0 rfl ?_
  refine V_iload_n (i := 1) rfl rfl dX8_isIn_1 rfl ?_
  refine V_iconst (v := 2) (by decide) dX8_isIn_2 rfl ?_
  refine V_call (n := 2) (sp_of l g hM hp (by decide : 2 < 6)) o_X8_of m_X8_43 ⟨by decide, by decide⟩ (by assumption) rfl rfl (by first | exact Nat.le_of_ble_eq_true rfl | simp [Value.category]) (Nat.le_refl _) (Nat.le_refl _) rfl dX8_isIn_3 rfl (kI ?_)
  refine V_if_ne (tgt := 13) dX8_isIn_6 (by decide) rfl (fun h_6 => ?_) (fun h_6 => ?_)
  · refine V_iconst (v := 0) (by decide) dX8_isIn_13 rfl ?_
    exact V_ireturn rfl (by decide) dX8_isIn_14 rfl rfl rfl (qI.of (by first | exact (bI_t h_6).symm | exact (bI_f h_6).symm))
  · refine V_iconst (v := 1) (by decide) dX8_isIn_9 rfl ?_
    refine V_goto (tgt := 14) dX8_isIn_10 (by decide) ?_
    exact V_ireturn rfl (by decide) dX8_isIn_14 rfl rfl rfl (qI.of (by first | exact (bI_t h_6).symm | exact (bI_f h_6).symm))

set_option maxHeartbeats 4000000 in
set_option maxRecDepth 100000 in
theorem sp_isOver (l : Launch) (g : fw_G) {I : fw_I} {P : fw_P} {s : Nat → Int32} (hM : MSh P) : Sp l g kX8_isOver T0 [.ref (g.1 + 688)] (wr I 689 s) P T0 0 0 (qI (bI (s 4 = 4)) (wr I 689 s) P) := by
  have a688 := at_688
  have a689 := at_689
  obtain ⟨p0, p1, p3, p5, p6, p10, p12, p13⟩ := id hM
  refine Sp.of_V (L := [some (.ref (g.1 + 688))]) (by decide) (by simp [Value.category]) (Nat.le_of_ble_eq_true rfl) rfl ?_
  refine V_aload_n (i := 0) rfl rfl dX8_isOver_0 rfl ?_
  refine V_getr (kf := 0) C8 (by decide) l_X8_7 (by assumption) rfl (by assumption) dX8_isOver_1 rfl ?_
  refine V_iconst (v := 4) (by decide) dX8_isOver_4 rfl ?_
  refine V_iald9 (by assumption) (fw_ix_nI (j := 4) (by decide) (by decide)) dX8_isOver_5 rfl ?_
  refine V_iconst (v := 4) (by decide) dX8_isOver_6 rfl ?_
  refine V_icmp_ne (tgt := 14) dX8_isOver_7 (by decide) rfl (fun h_7 => ?_) (fun h_7 => ?_)
  · refine V_iconst (v := 0) (by decide) dX8_isOver_14 rfl ?_
    exact V_ireturn rfl (by decide) dX8_isOver_15 rfl rfl rfl (qI.of (by first | exact (bI_t h_7).symm | exact (bI_f h_7).symm))
  · refine V_iconst (v := 1) (by decide) dX8_isOver_10 rfl ?_
    refine V_goto (tgt := 15) dX8_isOver_11 (by decide) ?_
    exact V_ireturn rfl (by decide) dX8_isOver_15 rfl rfl rfl (qI.of (by first | exact (bI_t h_7).symm | exact (bI_f h_7).symm))

set_option maxHeartbeats 4000000 in
set_option maxRecDepth 100000 in
theorem sp_goOn (l : Launch) (g : fw_G) (I : fw_I) (P : fw_P) (a b : Int32) : Sp l g kX8_goOn T0 [.int a, .int b] I P T0 0 0 (qI (aGo a b) I P) := by
  refine Sp.of_V (L := [some (.int a), some (.int b)]) (by decide) (by simp [Value.category]) (Nat.le_of_ble_eq_true rfl) rfl ?_
  refine V_iload_n (i := 0) rfl rfl dX8_goOn_0 rfl ?_
  refine V_iload_n (i := 1) rfl rfl dX8_goOn_1 rfl ?_
  refine V_iadd dX8_goOn_2 rfl ?_
  refine V_bipush (v := 60) (by decide) dX8_goOn_3 rfl ?_
  refine V_icmp_le (tgt := 17) dX8_goOn_5 (by decide) rfl (fun h_5 => ?_) (fun h_5 => ?_)
  · refine V_iload_n (i := 0) rfl rfl dX8_goOn_17 rfl ?_
    refine V_iload_n (i := 1) rfl rfl dX8_goOn_18 rfl ?_
    refine V_iadd dX8_goOn_19 rfl ?_
    exact V_ireturn rfl rfl dX8_goOn_20 rfl rfl rfl (qI.of (by first | (unfold aGo; rw [if_pos h_5]) | (unfold aGo; rw [if_neg h_5])))
  · refine V_bipush (v := 120) (by decide) dX8_goOn_8 rfl ?_
    refine V_iload_n (i := 0) rfl rfl dX8_goOn_10 rfl ?_
    refine V_isub dX8_goOn_11 rfl ?_
    refine V_iload_n (i := 1) rfl rfl dX8_goOn_12 rfl ?_
    refine V_isub dX8_goOn_13 rfl ?_
    refine V_goto (tgt := 20) dX8_goOn_14 (by decide) ?_
    exact V_ireturn rfl rfl dX8_goOn_20 rfl rfl rfl (qI.of (by first | (unfold aGo; rw [if_pos h_5]) | (unfold aGo; rw [if_neg h_5])))

set_option maxHeartbeats 4000000 in
set_option maxRecDepth 100000 in
theorem sp_draw (l : Launch) (g : fw_G) (I : fw_I) (P : fw_P) (x : Int32) : Sp l g kX8_draw T0 [.int x] I P T0 0 0 (qI (aDraw x) I P) := by
  refine Sp.of_V (L := [some (.int x)]) (by decide) (by simp [Value.category]) (Nat.le_of_ble_eq_true rfl) rfl ?_
  refine V_sipush (v := 25173) (by decide) dX8_draw_0 rfl ?_
  refine V_iload_n (i := 0) rfl rfl dX8_draw_3 rfl ?_
  refine V_imul dX8_draw_4 rfl ?_
  refine V_sipush (v := 13849) (by decide) dX8_draw_5 rfl ?_
  refine V_iadd dX8_draw_8 rfl ?_
  refine V_ldc cst_X8_99 dX8_draw_9 rfl ?_
  refine V_irem (by decide) dX8_draw_11 rfl ?_
  exact V_ireturn rfl rfl dX8_draw_12 rfl rfl rfl (qI.of rfl)

set_option maxHeartbeats 4000000 in
set_option maxRecDepth 100000 in
theorem sp_diceOf (l : Launch) (g : fw_G) (I : fw_I) (P : fw_P) (x : Int32) : Sp l g kX8_diceOf T0 [.int x] I P T0 0 0 (qI (aDice x) I P) := by
  refine Sp.of_V (L := [some (.int x)]) (by decide) (by simp [Value.category]) (Nat.le_of_ble_eq_true rfl) rfl ?_
  refine V_iconst (v := 1) (by decide) dX8_diceOf_0 rfl ?_
  refine V_iload_n (i := 0) rfl rfl dX8_diceOf_1 rfl ?_
  refine V_sipush (v := 10923) (by decide) dX8_diceOf_2 rfl ?_
  refine V_idiv (by decide) dX8_diceOf_5 rfl ?_
  refine V_iadd dX8_diceOf_6 rfl ?_
  exact V_ireturn rfl rfl dX8_diceOf_7 rfl rfl rfl (qI.of rfl)

set_option maxHeartbeats 4000000 in
set_option maxRecDepth 100000 in
theorem lp_snakeAt (l : Launch) (g : fw_G) {I : fw_I} {P : fw_P} {s : Nat → Int32} (hM : MSh P) (x : Int32) : ∀ (n j : Nat), j + n = 10 → V l g kX8_snakeAt T0 0 0 (qI (aSnF s x 10) (wr I 689 s) P) T0 (wr I 689 s) P 0 0 5 [some (.ref (g.1 + 688)), some (.int x), some (.int (aSnF s x j)), some (.int (nI j))] [] := by
  have a688 := at_688
  have a689 := at_689
  obtain ⟨p0, p1, p3, p5, p6, p10, p12, p13⟩ := id hM
  intro n
  induction n with
  | zero =>
    intro j hj
    obtain rfl : j = 10 := by omega
    refine V_iload_n (i := 3) rfl rfl dX8_snakeAt_5 rfl ?_
    refine V_bipush (v := 10) (by decide) dX8_snakeAt_6 rfl ?_
    refine V_icmp_ge (tgt := 37) dX8_snakeAt_8 (by decide) rfl (fun _ => ?_) (fun h => absurd (nI_le (a := 10) (b := 10) (Nat.le_refl _) (by decide)) h)
    refine V_iload_n (i := 2) rfl rfl dX8_snakeAt_37 rfl ?_
    exact V_ireturn rfl rfl dX8_snakeAt_38 rfl rfl rfl (qI.of rfl)
  | succ n ih =>
    intro j hj
    have hj10 : j < 10 := by omega
    refine V_iload_n (i := 3) rfl rfl dX8_snakeAt_5 rfl ?_
    refine V_bipush (v := 10) (by decide) dX8_snakeAt_6 rfl ?_
    refine V_icmp_ge (tgt := 37) dX8_snakeAt_8 (by decide) rfl (fun h => absurd h (nI_ge (b := 10) (by omega) (by decide))) (fun _ => ?_)
    refine V_aload_n (i := 0) rfl rfl dX8_snakeAt_11 rfl ?_
    refine V_iload_n (i := 3) rfl rfl dX8_snakeAt_12 rfl ?_
    refine V_iconst (v := 0) (by decide) dX8_snakeAt_13 rfl ?_
    refine V_call (n := 2) (sp_ofSnake l g hM hj10 (by decide : 0 < 4)) o_X8_ofSnake m_X8_47 ⟨by decide, by decide⟩ (by assumption) rfl rfl (by first | exact Nat.le_of_ble_eq_true rfl | simp [Value.category]) (Nat.le_refl _) (Nat.le_refl _) rfl dX8_snakeAt_14 rfl (kI ?_)
    refine V_iload_n (i := 1) rfl rfl dX8_snakeAt_17 rfl ?_
    refine V_icmp_ne (tgt := 29) dX8_snakeAt_18 (by decide) rfl (fun h_18 => ?_) (fun h_18 => ?_)
    · refine V_iload_n (i := 2) rfl rfl dX8_snakeAt_29 rfl ?_
      refine V_istore_n (i := 2) rfl (by decide) rfl dX8_snakeAt_30 rfl ?_
      refine V_iinc1 (i := 3) rfl (by decide) rfl dX8_snakeAt_31 rfl ?_
      refine V_goto (tgt := 5) dX8_snakeAt_34 (by decide) ?_
      have h9 := ih (j + 1) (by omega)
      rw [← nI_1, show aSnF s x (j + 1) = if sn s j 0 = x ∧ 0 < x then nI j else aSnF s x j from rfl] at h9
      first | (rw [if_pos ⟨h_18, Int32.not_le.mp h_22⟩] at h9; exact h9) | (rw [if_neg (fun h => absurd h_22 (Int32.not_le.mpr h.2))] at h9; exact h9) | (rw [if_neg (fun h => h_18 h.1)] at h9; exact h9)
    · refine V_iload_n (i := 1) rfl rfl dX8_snakeAt_21 rfl ?_
      refine V_if_le (tgt := 29) dX8_snakeAt_22 (by decide) rfl (fun h_22 => ?_) (fun h_22 => ?_)
      · refine V_iload_n (i := 2) rfl rfl dX8_snakeAt_29 rfl ?_
        refine V_istore_n (i := 2) rfl (by decide) rfl dX8_snakeAt_30 rfl ?_
        refine V_iinc1 (i := 3) rfl (by decide) rfl dX8_snakeAt_31 rfl ?_
        refine V_goto (tgt := 5) dX8_snakeAt_34 (by decide) ?_
        have h9 := ih (j + 1) (by omega)
        rw [← nI_1, show aSnF s x (j + 1) = if sn s j 0 = x ∧ 0 < x then nI j else aSnF s x j from rfl] at h9
        first | (rw [if_pos ⟨h_18, Int32.not_le.mp h_22⟩] at h9; exact h9) | (rw [if_neg (fun h => absurd h_22 (Int32.not_le.mpr h.2))] at h9; exact h9) | (rw [if_neg (fun h => h_18 h.1)] at h9; exact h9)
      · refine V_iload_n (i := 3) rfl rfl dX8_snakeAt_25 rfl ?_
        refine V_goto (tgt := 30) dX8_snakeAt_26 (by decide) ?_
        refine V_istore_n (i := 2) rfl (by decide) rfl dX8_snakeAt_30 rfl ?_
        refine V_iinc1 (i := 3) rfl (by decide) rfl dX8_snakeAt_31 rfl ?_
        refine V_goto (tgt := 5) dX8_snakeAt_34 (by decide) ?_
        have h9 := ih (j + 1) (by omega)
        rw [← nI_1, show aSnF s x (j + 1) = if sn s j 0 = x ∧ 0 < x then nI j else aSnF s x j from rfl] at h9
        first | (rw [if_pos ⟨h_18, Int32.not_le.mp h_22⟩] at h9; exact h9) | (rw [if_neg (fun h => absurd h_22 (Int32.not_le.mpr h.2))] at h9; exact h9) | (rw [if_neg (fun h => h_18 h.1)] at h9; exact h9)

set_option maxHeartbeats 4000000 in
set_option maxRecDepth 100000 in
theorem sp_snakeAt (l : Launch) (g : fw_G) {I : fw_I} {P : fw_P} {s : Nat → Int32} (hM : MSh P) (x : Int32) : Sp l g kX8_snakeAt T0 [.ref (g.1 + 688), .int x] (wr I 689 s) P T0 0 0 (qI (aSnAt s x) (wr I 689 s) P) := by
  refine Sp.of_V (L := [some (.ref (g.1 + 688)), some (.int x), none, none]) (by decide) (by simp [Value.category]) (Nat.le_of_ble_eq_true rfl) rfl ?_
  refine V_bipush (v := (-5)) (by decide) dX8_snakeAt_0 rfl ?_
  refine V_istore_n (i := 2) rfl (by decide) rfl dX8_snakeAt_2 rfl ?_
  refine V_iconst (v := 0) (by decide) dX8_snakeAt_3 rfl ?_
  refine V_istore_n (i := 3) rfl (by decide) rfl dX8_snakeAt_4 rfl ?_
  exact lp_snakeAt l g hM x 10 0 rfl

set_option maxHeartbeats 4000000 in
set_option maxRecDepth 100000 in
theorem lp_snakes (l : Launch) (g : fw_G) {I : fw_I} {P : fw_P} {s : Nat → Int32} (hM : MSh P) : ∀ (n j : Nat), j + n = 10 → V l g kX8_snakes T0 0 0 (qI (aCntF s 10) (wr I 689 s) P) T0 (wr I 689 s) P 0 0 4 [some (.ref (g.1 + 688)), some (.int (aCntF s j)), some (.int (nI j))] [] := by
  have a688 := at_688
  have a689 := at_689
  obtain ⟨p0, p1, p3, p5, p6, p10, p12, p13⟩ := id hM
  intro n
  induction n with
  | zero =>
    intro j hj
    obtain rfl : j = 10 := by omega
    refine V_iload_n (i := 2) rfl rfl dX8_snakes_4 rfl ?_
    refine V_bipush (v := 10) (by decide) dX8_snakes_5 rfl ?_
    refine V_icmp_ge (tgt := 33) dX8_snakes_7 (by decide) rfl (fun _ => ?_) (fun h => absurd (nI_le (a := 10) (b := 10) (Nat.le_refl _) (by decide)) h)
    refine V_iload_n (i := 1) rfl rfl dX8_snakes_33 rfl ?_
    exact V_ireturn rfl rfl dX8_snakes_34 rfl rfl rfl (qI.of rfl)
  | succ n ih =>
    intro j hj
    have hj10 : j < 10 := by omega
    refine V_iload_n (i := 2) rfl rfl dX8_snakes_4 rfl ?_
    refine V_bipush (v := 10) (by decide) dX8_snakes_5 rfl ?_
    refine V_icmp_ge (tgt := 33) dX8_snakes_7 (by decide) rfl (fun h => absurd h (nI_ge (b := 10) (by omega) (by decide))) (fun _ => ?_)
    refine V_iload_n (i := 1) rfl rfl dX8_snakes_10 rfl ?_
    refine V_aload_n (i := 0) rfl rfl dX8_snakes_11 rfl ?_
    refine V_iload_n (i := 2) rfl rfl dX8_snakes_12 rfl ?_
    refine V_iconst (v := 0) (by decide) dX8_snakes_13 rfl ?_
    refine V_call (n := 2) (sp_ofSnake l g hM hj10 (by decide : 0 < 4)) o_X8_ofSnake m_X8_47 ⟨by decide, by decide⟩ (by assumption) rfl rfl (by first | exact Nat.le_of_ble_eq_true rfl | simp [Value.category]) (Nat.le_refl _) (Nat.le_refl _) rfl dX8_snakes_14 rfl (kI ?_)
    refine V_if_le (tgt := 24) dX8_snakes_17 (by decide) rfl (fun h_17 => ?_) (fun h_17 => ?_)
    · refine V_iconst (v := 0) (by decide) dX8_snakes_24 rfl ?_
      refine V_iadd dX8_snakes_25 rfl ?_
      refine V_istore_n (i := 1) rfl (by decide) rfl dX8_snakes_26 rfl ?_
      refine V_iinc1 (i := 2) rfl (by decide) rfl dX8_snakes_27 rfl ?_
      refine V_goto (tgt := 4) dX8_snakes_30 (by decide) ?_
      have h9 := ih (j + 1) (by omega)
      rw [← nI_1, show aCntF s (j + 1) = aCntF s j + bI (0 < sn s j 0) from rfl] at h9
      first | (rw [bI_t (Int32.not_le.mp h_17)] at h9; exact h9) | (rw [bI_f (fun h => absurd h_17 (Int32.not_le.mpr h))] at h9; exact h9)
    · refine V_iconst (v := 1) (by decide) dX8_snakes_20 rfl ?_
      refine V_goto (tgt := 25) dX8_snakes_21 (by decide) ?_
      refine V_iadd dX8_snakes_25 rfl ?_
      refine V_istore_n (i := 1) rfl (by decide) rfl dX8_snakes_26 rfl ?_
      refine V_iinc1 (i := 2) rfl (by decide) rfl dX8_snakes_27 rfl ?_
      refine V_goto (tgt := 4) dX8_snakes_30 (by decide) ?_
      have h9 := ih (j + 1) (by omega)
      rw [← nI_1, show aCntF s (j + 1) = aCntF s j + bI (0 < sn s j 0) from rfl] at h9
      first | (rw [bI_t (Int32.not_le.mp h_17)] at h9; exact h9) | (rw [bI_f (fun h => absurd h_17 (Int32.not_le.mpr h))] at h9; exact h9)

set_option maxHeartbeats 4000000 in
set_option maxRecDepth 100000 in
theorem sp_snakes (l : Launch) (g : fw_G) {I : fw_I} {P : fw_P} {s : Nat → Int32} (hM : MSh P) : Sp l g kX8_snakes T0 [.ref (g.1 + 688)] (wr I 689 s) P T0 0 0 (qI (aCntF s 10) (wr I 689 s) P) := by
  refine Sp.of_V (L := [some (.ref (g.1 + 688)), none, none]) (by decide) (by simp [Value.category]) (Nat.le_of_ble_eq_true rfl) rfl ?_
  refine V_iconst (v := 0) (by decide) dX8_snakes_0 rfl ?_
  refine V_istore_n (i := 1) rfl (by decide) rfl dX8_snakes_1 rfl ?_
  refine V_iconst (v := 0) (by decide) dX8_snakes_2 rfl ?_
  refine V_istore_n (i := 2) rfl (by decide) rfl dX8_snakes_3 rfl ?_
  exact lp_snakes l g hM 10 0 rfl

set_option maxHeartbeats 4000000 in
set_option maxRecDepth 100000 in
theorem lp_hurts (l : Launch) (g : fw_G) {I : fw_I} {P : fw_P} {s : Nat → Int32} (hM : MSh P) (hm : mOk s) {p : Nat} (hp : p < 4) : ∀ (n j : Nat), j + n = aMany s p → V l g kX8_hurts T0 0 0 (qI (aHu s p) (wr I 689 s) P) T0 (wr I 689 s) P 0 0 4 [some (.ref (g.1 + 688)), some (.int (nI p)), some (.int (aHuF s p j)), some (.int (nI j))] [] := by
  have a688 := at_688
  have a689 := at_689
  obtain ⟨p0, p1, p3, p5, p6, p10, p12, p13⟩ := id hM
  intro n
  induction n with
  | zero =>
    intro j hj
    obtain rfl : j = aMany s p := by omega
    refine V_iload_n (i := 3) rfl rfl dX8_hurts_4 rfl ?_
    refine V_aload_n (i := 0) rfl rfl dX8_hurts_5 rfl ?_
    refine V_iload_n (i := 1) rfl rfl dX8_hurts_6 rfl ?_
    refine V_iconst (v := 5) (by decide) dX8_hurts_7 rfl ?_
    refine V_call (n := 2) (sp_of l g hM hp (by decide : 5 < 6)) o_X8_of m_X8_43 ⟨by decide, by decide⟩ (by assumption) rfl rfl (by first | exact Nat.le_of_ble_eq_true rfl | simp [Value.category]) (Nat.le_refl _) (Nat.le_refl _) rfl dX8_hurts_8 rfl (kI ?_)
    refine V_icmp_ge (tgt := 35) dX8_hurts_11 (by decide) rfl (fun _ => ?_) (fun h => absurd (by rw [(hm.many hp).2]; exact nI_le (Nat.le_refl _) (by have := (hm.many hp).1; omega)) h)
    refine V_iload_n (i := 2) rfl rfl dX8_hurts_35 rfl ?_
    exact V_ireturn rfl rfl dX8_hurts_36 rfl rfl rfl (qI.of rfl)
  | succ n ih =>
    intro j hj
    have hj10 : j < aMany s p := by omega
    refine V_iload_n (i := 3) rfl rfl dX8_hurts_4 rfl ?_
    refine V_aload_n (i := 0) rfl rfl dX8_hurts_5 rfl ?_
    refine V_iload_n (i := 1) rfl rfl dX8_hurts_6 rfl ?_
    refine V_iconst (v := 5) (by decide) dX8_hurts_7 rfl ?_
    refine V_call (n := 2) (sp_of l g hM hp (by decide : 5 < 6)) o_X8_of m_X8_43 ⟨by decide, by decide⟩ (by assumption) rfl rfl (by first | exact Nat.le_of_ble_eq_true rfl | simp [Value.category]) (Nat.le_refl _) (Nat.le_refl _) rfl dX8_hurts_8 rfl (kI ?_)
    refine V_icmp_ge (tgt := 35) dX8_hurts_11 (by decide) rfl (fun h => absurd h (by rw [(hm.many hp).2]; exact nI_ge hj10 (by have := (hm.many hp).1; omega))) (fun _ => ?_)
    refine V_iload_n (i := 2) rfl rfl dX8_hurts_14 rfl ?_
    refine V_aload_n (i := 0) rfl rfl dX8_hurts_15 rfl ?_
    refine V_getr (kf := 0) C8 (by decide) l_X8_7 (by assumption) rfl (by assumption) dX8_hurts_16 rfl ?_
    refine V_iload_n (i := 1) rfl rfl dX8_hurts_19 rfl ?_
    refine V_iload_n (i := 3) rfl rfl dX8_hurts_20 rfl ?_
    refine V_callS (n := 2) (sp_whereIs l g _ P p j) o_X8_whereIs m_X8_58 ⟨by decide, by decide⟩ rfl rfl (by first | exact Nat.le_of_ble_eq_true rfl | simp [Value.category]) (Nat.le_refl _) (Nat.le_refl _) rfl dX8_hurts_21 rfl (kI ?_)
    refine V_iconst (v := 0) (by decide) dX8_hurts_24 rfl ?_
    refine V_iadd dX8_hurts_25 rfl ?_
    refine V_iald (by assumption) (ix_wi hp (by have := (hm.many hp).1; omega) (by decide : 0 < 4)) dX8_hurts_26 rfl ?_
    refine V_iadd dX8_hurts_27 rfl ?_
    refine V_istore_n (i := 2) rfl (by decide) rfl dX8_hurts_28 rfl ?_
    refine V_iinc1 (i := 3) rfl (by decide) rfl dX8_hurts_29 rfl ?_
    refine V_goto (tgt := 4) dX8_hurts_32 (by decide) ?_
    have h9 := ih (j + 1) (by omega)
    rw [← nI_1] at h9
    exact h9

set_option maxHeartbeats 4000000 in
set_option maxRecDepth 100000 in
theorem sp_hurts (l : Launch) (g : fw_G) {I : fw_I} {P : fw_P} {s : Nat → Int32} (hM : MSh P) (hm : mOk s) {p : Nat} (hp : p < 4) : Sp l g kX8_hurts T0 [.ref (g.1 + 688), .int (nI p)] (wr I 689 s) P T0 0 0 (qI (aHu s p) (wr I 689 s) P) := by
  refine Sp.of_V (L := [some (.ref (g.1 + 688)), some (.int (nI p)), none, none]) (by decide) (by simp [Value.category]) (Nat.le_of_ble_eq_true rfl) rfl ?_
  refine V_iconst (v := 0) (by decide) dX8_hurts_0 rfl ?_
  refine V_istore_n (i := 2) rfl (by decide) rfl dX8_hurts_1 rfl ?_
  refine V_iconst (v := 0) (by decide) dX8_hurts_2 rfl ?_
  refine V_istore_n (i := 3) rfl (by decide) rfl dX8_hurts_3 rfl ?_
  exact lp_hurts l g hM hm hp (aMany s p) 0 (by omega)

set_option maxHeartbeats 4000000 in
set_option maxRecDepth 100000 in
theorem sp_beginsAt (l : Launch) (g : fw_G) {I : fw_I} {P : fw_P} {s : Nat → Int32} (hM : MSh P) (hm : mOk s) {p : Nat} (hp : p < 4) : Sp l g kX8_beginsAt T0 [.ref (g.1 + 688), .int (nI p)] (wr I 689 s) P T0 0 0 (qI (aBeg s p) (wr I 689 s) P) := by
  have a688 := at_688
  have a689 := at_689
  obtain ⟨p0, p1, p3, p5, p6, p10, p12, p13⟩ := id hM
  refine Sp.of_V (L := [some (.ref (g.1 + 688)), some (.int (nI p)), none]) (by decide) (by simp [Value.category]) (Nat.le_of_ble_eq_true rfl) rfl ?_
  refine V_aload_n (i := 0) rfl rfl dX8_beginsAt_0 rfl ?_
  refine V_iload_n (i := 1) rfl rfl dX8_beginsAt_1 rfl ?_
  refine V_iconst (v := 0) (by decide) dX8_beginsAt_2 rfl ?_
  refine V_call (n := 2) (sp_of l g hM hp (by decide : 0 < 6)) o_X8_of m_X8_43 ⟨by decide, by decide⟩ (by assumption) rfl rfl (by first | exact Nat.le_of_ble_eq_true rfl | simp [Value.category]) (Nat.le_refl _) (Nat.le_refl _) rfl dX8_beginsAt_3 rfl (kI ?_)
  refine V_aload_n (i := 0) rfl rfl dX8_beginsAt_6 rfl ?_
  refine V_iload_n (i := 1) rfl rfl dX8_beginsAt_7 rfl ?_
  refine V_call (n := 1) (sp_hurts l g hM hm hp) o_X8_hurts m_X8_61 ⟨by decide, by decide⟩ (by assumption) rfl rfl (by first | exact Nat.le_of_ble_eq_true rfl | simp [Value.category]) (Nat.le_refl _) (Nat.le_refl _) rfl dX8_beginsAt_8 rfl (kI ?_)
  refine V_isub dX8_beginsAt_11 rfl ?_
  refine V_istore_n (i := 2) rfl (by decide) rfl dX8_beginsAt_12 rfl ?_
  refine V_iload_n (i := 2) rfl rfl dX8_beginsAt_13 rfl ?_
  refine V_if_ge (tgt := 21) dX8_beginsAt_14 (by decide) rfl (fun h_14 => ?_) (fun h_14 => ?_)
  · refine V_iload_n (i := 2) rfl rfl dX8_beginsAt_21 rfl ?_
    exact V_ireturn rfl rfl dX8_beginsAt_22 rfl rfl rfl (qI.of (by first | (unfold aBeg; rw [if_pos h_14]) | (unfold aBeg; rw [if_neg h_14])))
  · refine V_iconst (v := 0) (by decide) dX8_beginsAt_17 rfl ?_
    refine V_goto (tgt := 22) dX8_beginsAt_18 (by decide) ?_
    exact V_ireturn rfl rfl dX8_beginsAt_22 rfl rfl rfl (qI.of (by first | (unfold aBeg; rw [if_pos h_14]) | (unfold aBeg; rw [if_neg h_14])))

set_option maxHeartbeats 4000000 in
set_option maxRecDepth 100000 in
theorem lp_piecesAt (l : Launch) (g : fw_G) {I : fw_I} {P : fw_P} {s : Nat → Int32} (hM : MSh P) (x : Int32) : ∀ (n j : Nat), j + n = 4 → V l g kX8_piecesAt T0 0 0 (qI (aPi s x) (wr I 689 s) P) T0 (wr I 689 s) P 0 0 4 [some (.ref (g.1 + 688)), some (.int x), some (.int (aPiF s x j)), some (.int (nI j))] [] := by
  have a688 := at_688
  have a689 := at_689
  obtain ⟨p0, p1, p3, p5, p6, p10, p12, p13⟩ := id hM
  intro n
  induction n with
  | zero =>
    intro j hj
    obtain rfl : j = 4 := by omega
    refine V_iload_n (i := 3) rfl rfl dX8_piecesAt_4 rfl ?_
    refine V_iconst (v := 4) (by decide) dX8_piecesAt_5 rfl ?_
    refine V_icmp_ge (tgt := 35) dX8_piecesAt_6 (by decide) rfl (fun _ => ?_) (fun h => absurd (nI_le (a := 4) (b := 4) (Nat.le_refl _) (by decide)) h)
    refine V_iload_n (i := 2) rfl rfl dX8_piecesAt_35 rfl ?_
    exact V_ireturn rfl rfl dX8_piecesAt_36 rfl rfl rfl (qI.of rfl)
  | succ n ih =>
    intro j hj
    have hj10 : j < 4 := by omega
    refine V_iload_n (i := 3) rfl rfl dX8_piecesAt_4 rfl ?_
    refine V_iconst (v := 4) (by decide) dX8_piecesAt_5 rfl ?_
    refine V_icmp_ge (tgt := 35) dX8_piecesAt_6 (by decide) rfl (fun h => absurd h (nI_ge (b := 4) (by omega) (by decide))) (fun _ => ?_)
    refine V_iload_n (i := 2) rfl rfl dX8_piecesAt_9 rfl ?_
    refine V_aload_n (i := 0) rfl rfl dX8_piecesAt_10 rfl ?_
    refine V_iload_n (i := 3) rfl rfl dX8_piecesAt_11 rfl ?_
    refine V_iconst (v := 0) (by decide) dX8_piecesAt_12 rfl ?_
    refine V_call (n := 2) (sp_of l g hM hj10 (by decide : 0 < 6)) o_X8_of m_X8_43 ⟨by decide, by decide⟩ (by assumption) rfl rfl (by first | exact Nat.le_of_ble_eq_true rfl | simp [Value.category]) (Nat.le_refl _) (Nat.le_refl _) rfl dX8_piecesAt_13 rfl (kI ?_)
    refine V_iload_n (i := 1) rfl rfl dX8_piecesAt_16 rfl ?_
    refine V_icmp_ne (tgt := 26) dX8_piecesAt_17 (by decide) rfl (fun h_17 => ?_) (fun h_17 => ?_)
    · refine V_iconst (v := 0) (by decide) dX8_piecesAt_26 rfl ?_
      refine V_ior dX8_piecesAt_27 rfl ?_
      refine V_istore_n (i := 2) rfl (by decide) rfl dX8_piecesAt_28 rfl ?_
      refine V_iinc1 (i := 3) rfl (by decide) rfl dX8_piecesAt_29 rfl ?_
      refine V_goto (tgt := 4) dX8_piecesAt_32 (by decide) ?_
      have h9 := ih (j + 1) (by omega)
      rw [← nI_1, show aPiF s x (j + 1) = aPiF s x j ||| (if ro s j 0 = x then 1 <<< (nI j &&& 31) else 0) from rfl] at h9
      first | (rw [if_pos h_17] at h9; exact h9) | (rw [if_neg h_17] at h9; exact h9)
    · refine V_iconst (v := 1) (by decide) dX8_piecesAt_20 rfl ?_
      refine V_iload_n (i := 3) rfl rfl dX8_piecesAt_21 rfl ?_
      refine V_ishl dX8_piecesAt_22 rfl ?_
      refine V_goto (tgt := 27) dX8_piecesAt_23 (by decide) ?_
      refine V_ior dX8_piecesAt_27 rfl ?_
      refine V_istore_n (i := 2) rfl (by decide) rfl dX8_piecesAt_28 rfl ?_
      refine V_iinc1 (i := 3) rfl (by decide) rfl dX8_piecesAt_29 rfl ?_
      refine V_goto (tgt := 4) dX8_piecesAt_32 (by decide) ?_
      have h9 := ih (j + 1) (by omega)
      rw [← nI_1, show aPiF s x (j + 1) = aPiF s x j ||| (if ro s j 0 = x then 1 <<< (nI j &&& 31) else 0) from rfl] at h9
      first | (rw [if_pos h_17] at h9; exact h9) | (rw [if_neg h_17] at h9; exact h9)

set_option maxHeartbeats 4000000 in
set_option maxRecDepth 100000 in
theorem sp_piecesAt (l : Launch) (g : fw_G) {I : fw_I} {P : fw_P} {s : Nat → Int32} (hM : MSh P) (x : Int32) : Sp l g kX8_piecesAt T0 [.ref (g.1 + 688), .int x] (wr I 689 s) P T0 0 0 (qI (aPi s x) (wr I 689 s) P) := by
  refine Sp.of_V (L := [some (.ref (g.1 + 688)), some (.int x), none, none]) (by decide) (by simp [Value.category]) (Nat.le_of_ble_eq_true rfl) rfl ?_
  refine V_iconst (v := 0) (by decide) dX8_piecesAt_0 rfl ?_
  refine V_istore_n (i := 2) rfl (by decide) rfl dX8_piecesAt_1 rfl ?_
  refine V_iconst (v := 0) (by decide) dX8_piecesAt_2 rfl ?_
  refine V_istore_n (i := 3) rfl (by decide) rfl dX8_piecesAt_3 rfl ?_
  exact lp_piecesAt l g hM x 4 0 rfl

theorem aSnAt_nat {s : Nat → Int32} {q : Int32} (h : ¬ aSnAt s q = -5) : ∃ k, k < 10 ∧ aSnAt s q = nI k ∧ sn s k 0 = q ∧ 0 < q := by
  rcases aSnF_cases s q 10 with h1 | h1
  · exact absurd h1 h
  · exact h1

set_option maxHeartbeats 4000000 in
set_option maxRecDepth 100000 in
theorem sp_bites (l : Launch) (g : fw_G) {I : fw_I} {P : fw_P} {s : Nat → Int32} (hM : MSh P) {p : Nat} (hp : p < 4) (x : Int32) : Sp l g kX8_bites T0 [.ref (g.1 + 688), .int (nI p), .int x] (wr I 689 s) P T0 0 0 (qJ (fun r I1 P1 => ((r = 1 ∧ aBites s p x) ∨ (r = 0 ∧ ¬ aBites s p x)) ∧ I1 = wr I 689 s ∧ P1 = P)) := by
  have a688 := at_688
  have a689 := at_689
  obtain ⟨p0, p1, p3, p5, p6, p10, p12, p13⟩ := id hM
  refine Sp.of_V (L := [some (.ref (g.1 + 688)), some (.int (nI p)), some (.int x), none]) (by decide) (by simp [Value.category]) (Nat.le_of_ble_eq_true rfl) rfl ?_
  refine V_aload_n (i := 0) rfl rfl dX8_bites_0 rfl ?_
  refine V_iload_n (i := 2) rfl rfl dX8_bites_1 rfl ?_
  refine V_call (n := 1) (sp_snakeAt l g hM x) o_X8_snakeAt m_X8_65 ⟨by decide, by decide⟩ (by assumption) rfl rfl (by first | exact Nat.le_of_ble_eq_true rfl | simp [Value.category]) (Nat.le_refl _) (Nat.le_refl _) rfl dX8_bites_2 rfl (kI ?_)
  refine V_istore_n (i := 3) rfl (by decide) rfl dX8_bites_5 rfl ?_
  refine V_iload_n (i := 3) rfl rfl dX8_bites_6 rfl ?_
  refine V_bipush (v := (-5)) (by decide) dX8_bites_7 rfl ?_
  refine V_icmp_eq (tgt := 39) dX8_bites_9 (by decide) rfl (fun h_9 => ?_) (fun h_9 => ?_)
  · refine V_iconst (v := 0) (by decide) dX8_bites_39 rfl ?_
    exact V_ireturn rfl (by decide) dX8_bites_40 rfl rfl rfl (⟨_, rfl, by first | exact Or.inl ⟨rfl, h_9, by rw [hc]; exact h_18, h_32⟩ | exact Or.inr ⟨rfl, fun h => h_32 h.2.2⟩ | exact Or.inr ⟨rfl, fun h => h_18 (by have h2 := h.2.1; rw [hc] at h2; exact h2)⟩ | exact Or.inr ⟨rfl, fun h => h.1 h_9⟩, rfl, rfl⟩)
  · obtain ⟨k, hk, hk1, hk2, hk3⟩ := aSnAt_nat h_9
    have hc : (aSnAt s x).toNatClampNeg = k := by rw [hk1]; exact nI_clamp (by omega)
    rw [hk1]
    refine V_aload_n (i := 0) rfl rfl dX8_bites_12 rfl ?_
    refine V_iload_n (i := 3) rfl rfl dX8_bites_13 rfl ?_
    refine V_iconst (v := 2) (by decide) dX8_bites_14 rfl ?_
    refine V_call (n := 2) (sp_ofSnake l g hM hk (by decide : 2 < 4)) o_X8_ofSnake m_X8_47 ⟨by decide, by decide⟩ (by assumption) rfl rfl (by first | exact Nat.le_of_ble_eq_true rfl | simp [Value.category]) (Nat.le_refl _) (Nat.le_refl _) rfl dX8_bites_15 rfl (kI ?_)
    refine V_if_ne (tgt := 39) dX8_bites_18 (by decide) rfl (fun h_18 => ?_) (fun h_18 => ?_)
    · refine V_iconst (v := 0) (by decide) dX8_bites_39 rfl ?_
      exact V_ireturn rfl (by decide) dX8_bites_40 rfl rfl rfl (⟨_, rfl, by first | exact Or.inl ⟨rfl, h_9, by rw [hc]; exact h_18, h_32⟩ | exact Or.inr ⟨rfl, fun h => h_32 h.2.2⟩ | exact Or.inr ⟨rfl, fun h => h_18 (by have h2 := h.2.1; rw [hc] at h2; exact h2)⟩ | exact Or.inr ⟨rfl, fun h => h.1 h_9⟩, rfl, rfl⟩)
    · refine V_aload_n (i := 0) rfl rfl dX8_bites_21 rfl ?_
      refine V_iload_n (i := 2) rfl rfl dX8_bites_22 rfl ?_
      refine V_call (n := 1) (sp_piecesAt l g hM x) o_X8_piecesAt m_X8_68 ⟨by decide, by decide⟩ (by assumption) rfl rfl (by first | exact Nat.le_of_ble_eq_true rfl | simp [Value.category]) (Nat.le_refl _) (Nat.le_refl _) rfl dX8_bites_23 rfl (kI ?_)
      refine V_iconst (v := 1) (by decide) dX8_bites_26 rfl ?_
      refine V_iload_n (i := 1) rfl rfl dX8_bites_27 rfl ?_
      refine V_ishl dX8_bites_28 rfl ?_
      refine V_iconst (v := (-1)) (by decide) dX8_bites_29 rfl ?_
      refine V_ixor dX8_bites_30 rfl ?_
      refine V_iand dX8_bites_31 rfl ?_
      refine V_if_ne (tgt := 39) dX8_bites_32 (by decide) rfl (fun h_32 => ?_) (fun h_32 => ?_)
      · refine V_iconst (v := 0) (by decide) dX8_bites_39 rfl ?_
        exact V_ireturn rfl (by decide) dX8_bites_40 rfl rfl rfl (⟨_, rfl, by first | exact Or.inl ⟨rfl, h_9, by rw [hc]; exact h_18, h_32⟩ | exact Or.inr ⟨rfl, fun h => h_32 h.2.2⟩ | exact Or.inr ⟨rfl, fun h => h_18 (by have h2 := h.2.1; rw [hc] at h2; exact h2)⟩ | exact Or.inr ⟨rfl, fun h => h.1 h_9⟩, rfl, rfl⟩)
      · refine V_iconst (v := 1) (by decide) dX8_bites_35 rfl ?_
        refine V_goto (tgt := 40) dX8_bites_36 (by decide) ?_
        exact V_ireturn rfl (by decide) dX8_bites_40 rfl rfl rfl (⟨_, rfl, by first | exact Or.inl ⟨rfl, h_9, by rw [hc]; exact h_18, h_32⟩ | exact Or.inr ⟨rfl, fun h => h_32 h.2.2⟩ | exact Or.inr ⟨rfl, fun h => h_18 (by have h2 := h.2.1; rw [hc] at h2; exact h2)⟩ | exact Or.inr ⟨rfl, fun h => h.1 h_9⟩, rfl, rfl⟩)
end
section
theorem kW {l : Launch} {g : fw_G} {k : fw_M} {T T' : fw_T} {mc ms : Nat} {Q : Option Value → fw_I → fw_P → Prop} {F : fw_I} {P : fw_P} {u w q : Nat} {L : List (Option Value)} {st : List Value} (h : V l g k T' mc ms Q T F P u w q L st) : ∀ (v : Option Value) (I1 : fw_I) (P1 : fw_P), qV (fun I1 P1 => I1 = F ∧ P1 = P) v I1 P1 → V l g k T' mc ms Q T I1 P1 u w q L (v.toList ++ st) := by
  rintro _ _ _ ⟨rfl, rfl, rfl⟩
  exact h
theorem kX {l : Launch} {g : fw_G} {k : fw_M} {T T' : fw_T} {mc ms : Nat} {Q : Option Value → fw_I → fw_P → Prop} {F : fw_I} {P : fw_P} {u w q : Nat} {L : List (Option Value)} {st : List Value} {f : Int32} (h : V l g k T' mc ms Q T F P u w q L (.int f :: st)) : ∀ (v : Option Value) (I1 : fw_I) (P1 : fw_P), qJ (fun r I1 P1 => r = f ∧ I1 = F ∧ P1 = P) v I1 P1 → V l g k T' mc ms Q T I1 P1 u w q L (v.toList ++ st) := by
  rintro _ _ _ ⟨_, rfl, rfl, rfl, rfl⟩
  exact h
theorem kB {l : Launch} {g : fw_G} {k : fw_M} {T T' : fw_T} {mc ms : Nat} {Q : Option Value → fw_I → fw_P → Prop} {F : fw_I} {P : fw_P} {u w q : Nat} {L : List (Option Value)} {st : List Value} {C : Int32 → Prop} (h : ∀ r : Int32, C r → V l g k T' mc ms Q T F P u w q L (.int r :: st)) : ∀ (v : Option Value) (I1 : fw_I) (P1 : fw_P), qJ (fun r I1 P1 => C r ∧ I1 = F ∧ P1 = P) v I1 P1 → V l g k T' mc ms Q T I1 P1 u w q L (v.toList ++ st) := by
  rintro _ _ _ ⟨r, rfl, hc, rfl, rfl⟩
  exact h r hc
theorem ix_snk {s : Nat → Int32} {x : Int32} {f : Nat} (hx : ¬ aSnAt s x = -5) (hf : f < 4) : fw_ix (352 + 4 * aSnAt s x + nI f) (352 + 4 * (aSnAt s x).toNatClampNeg + f) 392 := by
  obtain ⟨k, hk, e, -, -⟩ := aSnAt_nat hx
  rw [e, nI_clamp (by omega)]
  exact ix_sn hk hf
theorem aRem4_nI {p : Nat} (hp : p < 4) : aRem4 (nI p + 1) = nI ((p + 1) % 4) := by
  have : p = 0 ∨ p = 1 ∨ p = 2 ∨ p = 3 := by omega
  rcases this with rfl | rfl | rfl | rfl <;> decide
theorem nI_eq0 {j : Nat} (h : nI j = 0) (hj : j < 2 ^ 31) : j = 0 := by
  have h1 := nI_toInt hj
  rw [h, Int32.toInt_zero] at h1
  omega
set_option maxHeartbeats 4000000 in
set_option maxRecDepth 100000 in
theorem sp_getBite (l : Launch) (g : fw_G) {I : fw_I} {P : fw_P} {s : Nat → Int32} (hM : MSh P) (hm : mOk s) {p : Nat} (hp : p < 4) (x : Int32) : Sp l g kX8_getBite T0 [.ref (g.1 + 688), .int (nI p), .int x] (wr I 689 s) P T0 0 0 (qV (fun I1 P1 => I1 = wr I 689 (aGet s p x) ∧ P1 = P)) := by
  have a688 := at_688
  have a689 := at_689
  obtain ⟨p0, p1, p3, p5, p6, p10, p12, p13⟩ := id hM
  refine Sp.of_V (L := [some (.ref (g.1 + 688)), some (.int (nI p)), some (.int x), none]) (by decide) (by simp [Value.category]) (Nat.le_of_ble_eq_true rfl) rfl ?_
  refine V_iload_n (i := 1) rfl rfl dX8_getBite_0 rfl ?_
  refine V_aload_n (i := 0) rfl rfl dX8_getBite_1 rfl ?_
  refine V_iload_n (i := 1) rfl rfl dX8_getBite_2 rfl ?_
  refine V_iconst (v := 5) (by decide) dX8_getBite_3 rfl ?_
  refine V_call (n := 2) (sp_of l g hM hp (by decide : 5 < 6)) o_X8_of m_X8_43 ⟨by decide, by decide⟩ (by assumption) rfl rfl (by first | exact Nat.le_of_ble_eq_true rfl | simp [Value.category]) (Nat.le_refl _) (Nat.le_refl _) rfl dX8_getBite_4 rfl (kI ?_)
  rw [(hm.many hp).2]
  refine V_callS (n := 2) (sp_whereIs l g _ P p (aMany s p)) o_X8_whereIs m_X8_58 ⟨by decide, by decide⟩ rfl rfl (by first | exact Nat.le_of_ble_eq_true rfl | simp [Value.category]) (Nat.le_refl _) (Nat.le_refl _) rfl dX8_getBite_7 rfl (kI ?_)
  refine V_istore_n (i := 3) rfl (by decide) rfl dX8_getBite_10 rfl ?_
  refine V_aload_n (i := 0) rfl rfl dX8_getBite_11 rfl ?_
  refine V_getr (kf := 0) C8 (by decide) l_X8_7 (by assumption) rfl (by assumption) dX8_getBite_12 rfl ?_
  refine V_iload_n (i := 3) rfl rfl dX8_getBite_15 rfl ?_
  refine V_iconst (v := 0) (by decide) dX8_getBite_16 rfl ?_
  refine V_iadd dX8_getBite_17 rfl ?_
  refine V_iload_n (i := 2) rfl rfl dX8_getBite_18 rfl ?_
  refine V_iast9 (by assumption) (ix_wi hp (hm.many hp).1 (by decide : 0 < 4)) dX8_getBite_19 rfl ?_
  refine V_aload_n (i := 0) rfl rfl dX8_getBite_20 rfl ?_
  refine V_getr (kf := 0) C8 (by decide) l_X8_7 (by assumption) rfl (by assumption) dX8_getBite_21 rfl ?_
  refine V_iload_n (i := 3) rfl rfl dX8_getBite_24 rfl ?_
  refine V_iconst (v := 1) (by decide) dX8_getBite_25 rfl ?_
  refine V_iadd dX8_getBite_26 rfl ?_
  refine V_iconst (v := 0) (by decide) dX8_getBite_27 rfl ?_
  refine V_iast9 (by assumption) (ix_wi hp (hm.many hp).1 (by decide : 1 < 4)) dX8_getBite_28 rfl ?_
  refine V_aload_n (i := 0) rfl rfl dX8_getBite_29 rfl ?_
  refine V_getr (kf := 0) C8 (by decide) l_X8_7 (by assumption) rfl (by assumption) dX8_getBite_30 rfl ?_
  refine V_iload_n (i := 3) rfl rfl dX8_getBite_33 rfl ?_
  refine V_iconst (v := 2) (by decide) dX8_getBite_34 rfl ?_
  refine V_iadd dX8_getBite_35 rfl ?_
  refine V_iload_n (i := 1) rfl rfl dX8_getBite_36 rfl ?_
  refine V_iast9 (by assumption) (ix_wi hp (hm.many hp).1 (by decide : 2 < 4)) dX8_getBite_37 rfl ?_
  refine V_aload_n (i := 0) rfl rfl dX8_getBite_38 rfl ?_
  refine V_getr (kf := 0) C8 (by decide) l_X8_7 (by assumption) rfl (by assumption) dX8_getBite_39 rfl ?_
  refine V_iload_n (i := 3) rfl rfl dX8_getBite_42 rfl ?_
  refine V_iconst (v := 3) (by decide) dX8_getBite_43 rfl ?_
  refine V_iadd dX8_getBite_44 rfl ?_
  refine V_iconst (v := 1) (by decide) dX8_getBite_45 rfl ?_
  refine V_iload_n (i := 1) rfl rfl dX8_getBite_46 rfl ?_
  refine V_ishl dX8_getBite_47 rfl ?_
  refine V_iast9 (by assumption) (ix_wi hp (hm.many hp).1 (by decide : 3 < 4)) dX8_getBite_48 rfl ?_
  refine V_aload_n (i := 0) rfl rfl dX8_getBite_49 rfl ?_
  refine V_iload_n (i := 1) rfl rfl dX8_getBite_50 rfl ?_
  refine V_iconst (v := 5) (by decide) dX8_getBite_51 rfl ?_
  refine V_iconst (v := 1) (by decide) dX8_getBite_52 rfl ?_
  refine V_call (n := 3) (sp_add l g hM 1 hp (by decide : 5 < 6)) o_X8_add m_X8_71 ⟨by decide, by decide⟩ (by assumption) rfl rfl (by first | exact Nat.le_of_ble_eq_true rfl | simp [Value.category]) (Nat.le_refl _) (Nat.le_refl _) rfl dX8_getBite_53 rfl (kW ?_)
  refine V_aload_n (i := 0) rfl rfl dX8_getBite_56 rfl ?_
  refine V_iload_n (i := 1) rfl rfl dX8_getBite_57 rfl ?_
  refine V_iconst (v := 3) (by decide) dX8_getBite_58 rfl ?_
  refine V_iconst (v := 1) (by decide) dX8_getBite_59 rfl ?_
  refine V_call (n := 3) (sp_add l g hM 1 hp (by decide : 3 < 6)) o_X8_add m_X8_71 ⟨by decide, by decide⟩ (by assumption) rfl rfl (by first | exact Nat.le_of_ble_eq_true rfl | simp [Value.category]) (Nat.le_refl _) (Nat.le_refl _) rfl dX8_getBite_60 rfl (kW ?_)
  refine V_aload_n (i := 0) rfl rfl dX8_getBite_63 rfl ?_
  refine V_getr (kf := 0) C8 (by decide) l_X8_7 (by assumption) rfl (by assumption) dX8_getBite_64 rfl ?_
  refine V_iconst (v := 2) (by decide) dX8_getBite_67 rfl ?_
  refine V_dup2 rfl rfl dX8_getBite_68 rfl ?_
  refine V_iald9 (by assumption) (fw_ix_nI (j := 2) (by decide) (by decide)) dX8_getBite_69 rfl ?_
  refine V_iconst (v := 1) (by decide) dX8_getBite_70 rfl ?_
  refine V_iadd dX8_getBite_71 rfl ?_
  refine V_iast9 (by assumption) (fw_ix_nI (j := 2) (by decide) (by decide)) dX8_getBite_72 rfl ?_
  exact V_return rfl dX8_getBite_73 rfl rfl rfl (⟨rfl, rfl, rfl⟩)

set_option maxHeartbeats 4000000 in
set_option maxRecDepth 100000 in
theorem sp_beBitten (l : Launch) (g : fw_G) {I : fw_I} {P : fw_P} {s : Nat → Int32} (hM : MSh P) (hm : mOk s) {p : Nat} (hp : p < 4) (x : Int32) (hx : ¬ aSnAt s x = -5) : Sp l g kX8_beBitten T0 [.ref (g.1 + 688), .int (nI p), .int x] (wr I 689 s) P T0 0 0 (qV (fun I1 P1 => I1 = wr I 689 (aBit s p x) ∧ P1 = P)) := by
  have a688 := at_688
  have a689 := at_689
  obtain ⟨p0, p1, p3, p5, p6, p10, p12, p13⟩ := id hM
  refine Sp.of_V (L := [some (.ref (g.1 + 688)), some (.int (nI p)), some (.int x), none]) (by decide) (by simp [Value.category]) (Nat.le_of_ble_eq_true rfl) rfl ?_
  refine V_sipush (v := 352) (by decide) dX8_beBitten_0 rfl ?_
  refine V_iconst (v := 4) (by decide) dX8_beBitten_3 rfl ?_
  refine V_aload_n (i := 0) rfl rfl dX8_beBitten_4 rfl ?_
  refine V_iload_n (i := 2) rfl rfl dX8_beBitten_5 rfl ?_
  refine V_call (n := 1) (sp_snakeAt l g hM x) o_X8_snakeAt m_X8_65 ⟨by decide, by decide⟩ (by assumption) rfl rfl (by first | exact Nat.le_of_ble_eq_true rfl | simp [Value.category]) (Nat.le_refl _) (Nat.le_refl _) rfl dX8_beBitten_6 rfl (kI ?_)
  refine V_imul dX8_beBitten_9 rfl ?_
  refine V_iadd dX8_beBitten_10 rfl ?_
  refine V_istore_n (i := 3) rfl (by decide) rfl dX8_beBitten_11 rfl ?_
  refine V_aload_n (i := 0) rfl rfl dX8_beBitten_12 rfl ?_
  refine V_iload_n (i := 1) rfl rfl dX8_beBitten_13 rfl ?_
  refine V_aload_n (i := 0) rfl rfl dX8_beBitten_14 rfl ?_
  refine V_getr (kf := 0) C8 (by decide) l_X8_7 (by assumption) rfl (by assumption) dX8_beBitten_15 rfl ?_
  refine V_iload_n (i := 3) rfl rfl dX8_beBitten_18 rfl ?_
  refine V_iconst (v := 0) (by decide) dX8_beBitten_19 rfl ?_
  refine V_iadd dX8_beBitten_20 rfl ?_
  refine V_iald9 (by assumption) (ix_snk hx (by decide : 0 < 4)) dX8_beBitten_21 rfl ?_
  refine V_aload_n (i := 0) rfl rfl dX8_beBitten_22 rfl ?_
  refine V_getr (kf := 0) C8 (by decide) l_X8_7 (by assumption) rfl (by assumption) dX8_beBitten_23 rfl ?_
  refine V_iload_n (i := 3) rfl rfl dX8_beBitten_26 rfl ?_
  refine V_iconst (v := 1) (by decide) dX8_beBitten_27 rfl ?_
  refine V_iadd dX8_beBitten_28 rfl ?_
  refine V_iald9 (by assumption) (ix_snk hx (by decide : 1 < 4)) dX8_beBitten_29 rfl ?_
  refine V_isub dX8_beBitten_30 rfl ?_
  refine V_call (n := 2) (sp_getBite l g hM hm hp (s (352 + 4 * (aSnAt s x).toNatClampNeg + 0) - s (352 + 4 * (aSnAt s x).toNatClampNeg + 1))) o_X8_getBite m_X8_75 ⟨by decide, by decide⟩ (by assumption) rfl rfl (by first | exact Nat.le_of_ble_eq_true rfl | simp [Value.category]) (Nat.le_refl _) (Nat.le_refl _) rfl dX8_beBitten_31 rfl (kW ?_)
  refine V_aload_n (i := 0) rfl rfl dX8_beBitten_34 rfl ?_
  refine V_getr (kf := 0) C8 (by decide) l_X8_7 (by assumption) rfl (by assumption) dX8_beBitten_35 rfl ?_
  refine V_iload_n (i := 3) rfl rfl dX8_beBitten_38 rfl ?_
  refine V_iconst (v := 2) (by decide) dX8_beBitten_39 rfl ?_
  refine V_iadd dX8_beBitten_40 rfl ?_
  refine V_aload_n (i := 0) rfl rfl dX8_beBitten_41 rfl ?_
  refine V_getr (kf := 0) C8 (by decide) l_X8_7 (by assumption) rfl (by assumption) dX8_beBitten_42 rfl ?_
  refine V_iconst (v := 5) (by decide) dX8_beBitten_45 rfl ?_
  refine V_iald9 (by assumption) (fw_ix_nI (j := 5) (by decide) (by decide)) dX8_beBitten_46 rfl ?_
  refine V_iconst (v := 1) (by decide) dX8_beBitten_47 rfl ?_
  refine V_iadd dX8_beBitten_48 rfl ?_
  refine V_iast9 (by assumption) (ix_snk hx (by decide : 2 < 4)) dX8_beBitten_49 rfl ?_
  refine V_aload_n (i := 0) rfl rfl dX8_beBitten_50 rfl ?_
  refine V_getr (kf := 0) C8 (by decide) l_X8_7 (by assumption) rfl (by assumption) dX8_beBitten_51 rfl ?_
  refine V_iload_n (i := 3) rfl rfl dX8_beBitten_54 rfl ?_
  refine V_iconst (v := 3) (by decide) dX8_beBitten_55 rfl ?_
  refine V_iadd dX8_beBitten_56 rfl ?_
  refine V_dup2 rfl rfl dX8_beBitten_57 rfl ?_
  refine V_iald9 (by assumption) (ix_snk hx (by decide : 3 < 4)) dX8_beBitten_58 rfl ?_
  refine V_iconst (v := 1) (by decide) dX8_beBitten_59 rfl ?_
  refine V_iadd dX8_beBitten_60 rfl ?_
  refine V_iast9 (by assumption) (ix_snk hx (by decide : 3 < 4)) dX8_beBitten_61 rfl ?_
  exact V_return rfl dX8_beBitten_62 rfl rfl rfl (⟨rfl, rfl, rfl⟩)

set_option maxHeartbeats 4000000 in
set_option maxRecDepth 100000 in
theorem lp_turnNow (l : Launch) (g : fw_G) {I : fw_I} {P : fw_P} (hM : MSh P) {p : Nat} (d q b : Int32) (F : Nat → Int32) : ∀ (n j : Nat) (s : Nat → Int32), j + n = 4 → (∃ p1, p1 < 4 ∧ s 1 = nI p1) → aNoF n j s = F → V l g kX8_doTurn T0 0 0 (qJ (fun r I1 P1 => r = q ∧ I1 = wr I 689 (F) ∧ P1 = P)) T0 (wr I 689 (s)) P 0 0 170 [some (.ref (g.1 + 688)), some (.int d), some (.int (nI p)), some (.int b), some (.int q), some (.int (nI j))] [] := by
  have a688 := at_688
  have a689 := at_689
  obtain ⟨p0, p1, p3, p5, p6, p10, p12, p13⟩ := id hM
  intro n
  induction n with
  | zero =>
    intro j s hj hs hF
    obtain rfl : j = 4 := by omega
    subst hF
    refine V_iload (i := 5) rfl dX8_doTurn_170 rfl ?_
    refine V_iconst (v := 4) (by decide) dX8_doTurn_172 rfl ?_
    refine V_icmp_ge (tgt := 223) dX8_doTurn_173 (by decide) rfl (fun _ => ?_) (fun h => absurd (nI_le (a := 4) (b := 4) (Nat.le_refl _) (by decide)) h)
    refine V_iload (i := 4) rfl dX8_doTurn_223 rfl ?_
    exact V_ireturn rfl rfl dX8_doTurn_225 rfl rfl rfl (⟨_, rfl, rfl, rfl, rfl⟩)
  | succ n ih =>
    intro j s hj hs hF
    obtain ⟨p1, hp1, e1⟩ := hs
    have hc : (s 1).toNatClampNeg = p1 := by rw [e1]; exact nI_clamp (by omega)
    have hst : ∀ (hg : j = 0 ∨ ¬ ro s p1 2 = 0), ¬ s 4 = 4 → aNoF n (j + 1) (upd s 1 (aRem4 (s 1 + 1))) = F := fun hg h4 => by
      rw [← hF]
      show _ = if s 4 = 4 then s else _
      rw [if_neg h4, hc, if_pos hg]
    have hnx : ∃ p2, p2 < 4 ∧ upd s 1 (aRem4 (s 1 + 1)) 1 = nI p2 := ⟨(p1 + 1) % 4, by omega, by rw [show upd s 1 (aRem4 (s 1 + 1)) 1 = aRem4 (s 1 + 1) from rfl, e1]; exact aRem4_nI hp1⟩
    refine V_iload (i := 5) rfl dX8_doTurn_170 rfl ?_
    refine V_iconst (v := 4) (by decide) dX8_doTurn_172 rfl ?_
    refine V_icmp_ge (tgt := 223) dX8_doTurn_173 (by decide) rfl (fun h => absurd h (nI_ge (b := 4) (by omega) (by decide))) (fun _ => ?_)
    refine V_aload_n (i := 0) rfl rfl dX8_doTurn_176 rfl ?_
    refine V_call (n := 0) (sp_isOver l g hM) o_X8_isOver m_X8_92 ⟨by decide, by decide⟩ (by assumption) rfl rfl (by first | exact Nat.le_of_ble_eq_true rfl | simp [Value.category]) (Nat.le_refl _) (Nat.le_refl _) rfl dX8_doTurn_177 rfl (kI ?_)
    refine V_if_ne (tgt := 223) dX8_doTurn_180 (by decide) rfl (fun h_180 => ?_) (fun h_180 => ?_)
    · refine V_iload (i := 4) rfl dX8_doTurn_223 rfl ?_
      exact V_ireturn rfl rfl dX8_doTurn_225 rfl rfl rfl (⟨_, rfl, rfl, by
            first
              | (rw [← hF]; show _ = wr I 689 (if s 4 = 4 then s else _); rw [if_pos (bI_nz h_180)])
              | (rw [← hF]; show _ = wr I 689 (if s 4 = 4 then s else _); rw [if_neg (bI_z h_180), hc, if_neg (fun h => h.elim (fun h0 => h_185 (by rw [h0]; rfl)) (fun h0 => h0 (bI_nz h_198)))]), rfl⟩)
    · refine V_iload (i := 5) rfl dX8_doTurn_183 rfl ?_
      refine V_if_eq (tgt := 201) dX8_doTurn_185 (by decide) rfl (fun h_185 => ?_) (fun h_185 => ?_)
      · refine V_aload_n (i := 0) rfl rfl dX8_doTurn_201 rfl ?_
        refine V_getr (kf := 0) C8 (by decide) l_X8_7 (by assumption) rfl (by assumption) dX8_doTurn_202 rfl ?_
        refine V_iconst (v := 1) (by decide) dX8_doTurn_205 rfl ?_
        refine V_aload_n (i := 0) rfl rfl dX8_doTurn_206 rfl ?_
        refine V_getr (kf := 0) C8 (by decide) l_X8_7 (by assumption) rfl (by assumption) dX8_doTurn_207 rfl ?_
        refine V_iconst (v := 1) (by decide) dX8_doTurn_210 rfl ?_
        refine V_iald9 (by assumption) (fw_ix_nI (j := 1) (by decide) (by decide)) dX8_doTurn_211 rfl ?_
        refine V_iconst (v := 1) (by decide) dX8_doTurn_212 rfl ?_
        refine V_iadd dX8_doTurn_213 rfl ?_
        refine V_iconst (v := 4) (by decide) dX8_doTurn_214 rfl ?_
        refine V_irem (by decide) dX8_doTurn_215 rfl ?_
        refine V_iast9 (by assumption) (fw_ix_nI (j := 1) (by decide) (by decide)) dX8_doTurn_216 rfl ?_
        refine V_iinc1 (i := 5) rfl (by decide) rfl dX8_doTurn_217 rfl ?_
        refine V_goto (tgt := 170) dX8_doTurn_220 (by decide) ?_
        have h9 := ih (j + 1) _ (by omega) hnx (hst (by first | exact Or.inl (nI_eq0 h_185 (by omega)) | exact Or.inr (bI_z h_198)) (bI_z h_180))
        rw [← nI_1] at h9
        exact h9
      · refine V_aload_n (i := 0) rfl rfl dX8_doTurn_188 rfl ?_
        refine V_aload_n (i := 0) rfl rfl dX8_doTurn_189 rfl ?_
        refine V_getr (kf := 0) C8 (by decide) l_X8_7 (by assumption) rfl (by assumption) dX8_doTurn_190 rfl ?_
        refine V_iconst (v := 1) (by decide) dX8_doTurn_193 rfl ?_
        refine V_iald9 (by assumption) (fw_ix_nI (j := 1) (by decide) (by decide)) dX8_doTurn_194 rfl ?_
        rw [e1]
        refine V_call (n := 1) (sp_isIn l g hM hp1) o_X8_isIn m_X8_96 ⟨by decide, by decide⟩ (by assumption) rfl rfl (by first | exact Nat.le_of_ble_eq_true rfl | simp [Value.category]) (Nat.le_refl _) (Nat.le_refl _) rfl dX8_doTurn_195 rfl (kI ?_)
        refine V_if_ne (tgt := 223) dX8_doTurn_198 (by decide) rfl (fun h_198 => ?_) (fun h_198 => ?_)
        · refine V_iload (i := 4) rfl dX8_doTurn_223 rfl ?_
          exact V_ireturn rfl rfl dX8_doTurn_225 rfl rfl rfl (⟨_, rfl, rfl, by
                first
                  | (rw [← hF]; show _ = wr I 689 (if s 4 = 4 then s else _); rw [if_pos (bI_nz h_180)])
                  | (rw [← hF]; show _ = wr I 689 (if s 4 = 4 then s else _); rw [if_neg (bI_z h_180), hc, if_neg (fun h => h.elim (fun h0 => h_185 (by rw [h0]; rfl)) (fun h0 => h0 (bI_nz h_198)))]), rfl⟩)
        · refine V_aload_n (i := 0) rfl rfl dX8_doTurn_201 rfl ?_
          refine V_getr (kf := 0) C8 (by decide) l_X8_7 (by assumption) rfl (by assumption) dX8_doTurn_202 rfl ?_
          refine V_iconst (v := 1) (by decide) dX8_doTurn_205 rfl ?_
          refine V_aload_n (i := 0) rfl rfl dX8_doTurn_206 rfl ?_
          refine V_getr (kf := 0) C8 (by decide) l_X8_7 (by assumption) rfl (by assumption) dX8_doTurn_207 rfl ?_
          refine V_iconst (v := 1) (by decide) dX8_doTurn_210 rfl ?_
          refine V_iald9 (by assumption) (fw_ix_nI (j := 1) (by decide) (by decide)) dX8_doTurn_211 rfl ?_
          refine V_iconst (v := 1) (by decide) dX8_doTurn_212 rfl ?_
          refine V_iadd dX8_doTurn_213 rfl ?_
          refine V_iconst (v := 4) (by decide) dX8_doTurn_214 rfl ?_
          refine V_irem (by decide) dX8_doTurn_215 rfl ?_
          refine V_iast9 (by assumption) (fw_ix_nI (j := 1) (by decide) (by decide)) dX8_doTurn_216 rfl ?_
          refine V_iinc1 (i := 5) rfl (by decide) rfl dX8_doTurn_217 rfl ?_
          refine V_goto (tgt := 170) dX8_doTurn_220 (by decide) ?_
          have h9 := ih (j + 1) _ (by omega) hnx (hst (by first | exact Or.inl (nI_eq0 h_185 (by omega)) | exact Or.inr (bI_z h_198)) (bI_z h_180))
          rw [← nI_1] at h9
          exact h9

set_option maxHeartbeats 4000000 in
set_option maxRecDepth 100000 in
theorem lp_turnSl (l : Launch) (g : fw_G) {I : fw_I} {P : fw_P} {s : Nat → Int32} (hM : MSh P) (hs1 : ∃ p1, p1 < 4 ∧ upd (aSlF s 10) 0 (aSlF s 10 0 + 1) 1 = nI p1) {p : Nat} (d q b : Int32) : ∀ (n j : Nat), j + n = 10 → V l g kX8_doTurn T0 0 0 (qJ (fun r I1 P1 => r = q ∧ I1 = wr I 689 (aNoF 4 0 (upd (aSlF s 10) 0 (aSlF s 10 0 + 1))) ∧ P1 = P)) T0 (wr I 689 (aSlF s j)) P 0 0 111 [some (.ref (g.1 + 688)), some (.int d), some (.int (nI p)), some (.int b), some (.int q), some (.int (nI j))] [] := by
  have a688 := at_688
  have a689 := at_689
  obtain ⟨p0, p1, p3, p5, p6, p10, p12, p13⟩ := id hM
  intro n
  induction n with
  | zero =>
    intro j hj
    obtain rfl : j = 10 := by omega
    refine V_iload (i := 5) rfl dX8_doTurn_111 rfl ?_
    refine V_bipush (v := 10) (by decide) dX8_doTurn_113 rfl ?_
    refine V_icmp_ge (tgt := 157) dX8_doTurn_115 (by decide) rfl (fun _ => ?_) (fun h => absurd (nI_le (a := 10) (b := 10) (Nat.le_refl _) (by decide)) h)
    refine V_aload_n (i := 0) rfl rfl dX8_doTurn_157 rfl ?_
    refine V_getr (kf := 0) C8 (by decide) l_X8_7 (by assumption) rfl (by assumption) dX8_doTurn_158 rfl ?_
    refine V_iconst (v := 0) (by decide) dX8_doTurn_161 rfl ?_
    refine V_dup2 rfl rfl dX8_doTurn_162 rfl ?_
    refine V_iald9 (by assumption) (fw_ix_nI (j := 0) (by decide) (by decide)) dX8_doTurn_163 rfl ?_
    refine V_iconst (v := 1) (by decide) dX8_doTurn_164 rfl ?_
    refine V_iadd dX8_doTurn_165 rfl ?_
    refine V_iast9 (by assumption) (fw_ix_nI (j := 0) (by decide) (by decide)) dX8_doTurn_166 rfl ?_
    refine V_iconst (v := 0) (by decide) dX8_doTurn_167 rfl ?_
    refine V_istore (i := 5) (by decide) rfl dX8_doTurn_168 rfl ?_
    exact lp_turnNow l g hM d q b _ 4 0 _ rfl hs1 rfl
  | succ n ih =>
    intro j hj
    have hj10 : j < 10 := by omega
    refine V_iload (i := 5) rfl dX8_doTurn_111 rfl ?_
    refine V_bipush (v := 10) (by decide) dX8_doTurn_113 rfl ?_
    refine V_icmp_ge (tgt := 157) dX8_doTurn_115 (by decide) rfl (fun h => absurd h (nI_ge (b := 10) (by omega) (by decide))) (fun _ => ?_)
    refine V_aload_n (i := 0) rfl rfl dX8_doTurn_118 rfl ?_
    refine V_getr (kf := 0) C8 (by decide) l_X8_7 (by assumption) rfl (by assumption) dX8_doTurn_119 rfl ?_
    refine V_sipush (v := 352) (by decide) dX8_doTurn_122 rfl ?_
    refine V_iconst (v := 4) (by decide) dX8_doTurn_125 rfl ?_
    refine V_iload (i := 5) rfl dX8_doTurn_126 rfl ?_
    refine V_imul dX8_doTurn_128 rfl ?_
    refine V_iadd dX8_doTurn_129 rfl ?_
    refine V_iconst (v := 2) (by decide) dX8_doTurn_130 rfl ?_
    refine V_iadd dX8_doTurn_131 rfl ?_
    refine V_dup2 rfl rfl dX8_doTurn_132 rfl ?_
    refine V_iald9 (by assumption) (ix_sn hj10 (by decide : 2 < 4)) dX8_doTurn_133 rfl ?_
    refine V_aload_n (i := 0) rfl rfl dX8_doTurn_134 rfl ?_
    refine V_iload (i := 5) rfl dX8_doTurn_135 rfl ?_
    refine V_iconst (v := 2) (by decide) dX8_doTurn_137 rfl ?_
    refine V_call (n := 2) (sp_ofSnake l g hM hj10 (by decide : 2 < 4)) o_X8_ofSnake m_X8_47 ⟨by decide, by decide⟩ (by assumption) rfl rfl (by first | exact Nat.le_of_ble_eq_true rfl | simp [Value.category]) (Nat.le_refl _) (Nat.le_refl _) rfl dX8_doTurn_138 rfl (kI ?_)
    refine V_if_le (tgt := 148) dX8_doTurn_141 (by decide) rfl (fun h_141 => ?_) (fun h_141 => ?_)
    · refine V_iconst (v := 0) (by decide) dX8_doTurn_148 rfl ?_
      refine V_isub dX8_doTurn_149 rfl ?_
      refine V_iast9 (by assumption) (ix_sn hj10 (by decide : 2 < 4)) dX8_doTurn_150 rfl ?_
      refine V_iinc1 (i := 5) rfl (by decide) rfl dX8_doTurn_151 rfl ?_
      refine V_goto (tgt := 111) dX8_doTurn_154 (by decide) ?_
      have h9 := ih (j + 1) (by omega)
      rw [← nI_1, show aSlF s (j + 1) = upd (aSlF s j) (352 + 4 * j + 2) (aSlF s j (352 + 4 * j + 2) - bI (0 < sn (aSlF s j) j 2)) from rfl] at h9
      first | (rw [bI_t (Int32.not_le.mp h_141)] at h9; exact h9) | (rw [bI_f (fun h => absurd h_141 (Int32.not_le.mpr h))] at h9; exact h9)
    · refine V_iconst (v := 1) (by decide) dX8_doTurn_144 rfl ?_
      refine V_goto (tgt := 149) dX8_doTurn_145 (by decide) ?_
      refine V_isub dX8_doTurn_149 rfl ?_
      refine V_iast9 (by assumption) (ix_sn hj10 (by decide : 2 < 4)) dX8_doTurn_150 rfl ?_
      refine V_iinc1 (i := 5) rfl (by decide) rfl dX8_doTurn_151 rfl ?_
      refine V_goto (tgt := 111) dX8_doTurn_154 (by decide) ?_
      have h9 := ih (j + 1) (by omega)
      rw [← nI_1, show aSlF s (j + 1) = upd (aSlF s j) (352 + 4 * j + 2) (aSlF s j (352 + 4 * j + 2) - bI (0 < sn (aSlF s j) j 2)) from rfl] at h9
      first | (rw [bI_t (Int32.not_le.mp h_141)] at h9; exact h9) | (rw [bI_f (fun h => absurd h_141 (Int32.not_le.mpr h))] at h9; exact h9)
end
section
theorem V_Q {l : Launch} {g : fw_G} {k : fw_M} {T T' : fw_T} {mc ms : Nat} {Q Q0 : Option Value → fw_I → fw_P → Prop} {I : fw_I} {P : fw_P} {u w pc : Nat} {L : List (Option Value)} {st : List Value} (h : ∀ (v : Option Value) (I1 : fw_I) (P1 : fw_P), Q0 v I1 P1 → Q v I1 P1) (kk : V l g k T' mc ms Q0 T I P u w pc L st) : V l g k T' mc ms Q T I P u w pc L st := by
  intro p e s m args below meth c H locs ls hC hK hR hS hL T1 hT X
  obtain ⟨t, a, o, b1, b2, b3, b4⟩ := kk p e s m args below meth c H locs ls hC hK hR hS hL T1 hT X
  obtain ⟨⟨v, I1, P1, e1, e2, e3⟩, e4⟩ := b3
  exact ⟨t, a, o, b1, b2, ⟨⟨v, I1, P1, e1, h v I1 P1 e2, e3⟩, e4⟩, b4⟩
theorem upd_at (s : Nat → Int32) (i : Nat) (x : Int32) (j : Nat) : upd s i x j = if j = i then x else s j := rfl
theorem ro_aAdd (s : Nat → Int32) {p f p2 f2 : Nat} (x : Int32) (hf : f < 6) (hf2 : f2 < 6) : ro (aAdd s p f x) p2 f2 = if p2 = p ∧ f2 = f then ro s p f + x else ro s p2 f2 := by
  unfold aAdd ro
  rw [upd_at]
  by_cases h : p2 = p ∧ f2 = f
  · obtain ⟨rfl, rfl⟩ := h
    simp
  · rw [if_neg h, if_neg]
    omega
theorem aAdd_lo (s : Nat → Int32) (p f : Nat) (x : Int32) {j : Nat} (h : j < 8) : aAdd s p f x j = s j := by
  unfold aAdd
  rw [upd_at, if_neg (by omega)]
theorem aAdd_hi (s : Nat → Int32) {p f : Nat} (x : Int32) {j : Nat} (hp : p < 4) (hf : f < 6) (h : 32 ≤ j) : aAdd s p f x j = s j := by
  unfold aAdd
  rw [upd_at, if_neg (by omega)]
theorem aSlF_lo (s : Nat → Int32) {j : Nat} (h : j < 352) : ∀ n, aSlF s n j = s j
  | 0 => rfl
  | n + 1 => by
    show upd (aSlF s n) _ _ j = _
    rw [upd_at, if_neg (by omega)]
    exact aSlF_lo s h n
theorem aT3_ro (s : Nat → Int32) {p : Nat} (q : Int32) {p2 f : Nat} (hf : f < 6) : ro (aT3 s p q) p2 f = if p2 = p then (if f = 0 then q else if f = 4 then ro s p 4 + (ro s p 0 - aBeg s p) else if f = 5 then 0 else ro s p2 f) else ro s p2 f := by
  have r1 : ∀ f2, f2 < 6 → ro (aT1 s p) p2 f2 = if p2 = p ∧ f2 = 4 then ro s p 4 + (ro s p 0 - aBeg s p) else ro s p2 f2 := fun f2 h => ro_aAdd s _ (by decide) h
  have r1p : ∀ f2, f2 < 6 → ro (aT1 s p) p f2 = if p = p ∧ f2 = 4 then ro s p 4 + (ro s p 0 - aBeg s p) else ro s p f2 := fun f2 h => ro_aAdd s _ (by decide) h
  have r2 : ∀ f2, f2 < 6 → ro (aT2 s p) p2 f2 = if p2 = p ∧ f2 = 5 then 0 else ro (aT1 s p) p2 f2 := fun f2 h => by
    rw [aT2, ro_aAdd _ _ (by decide) h, Int32.add_right_neg]
  have r3 : ro (aT3 s p q) p2 f = if p2 = p ∧ f = 0 then q else ro (aT2 s p) p2 f := by
    rw [aT3, ro_aAdd _ _ (by decide) hf, Int32.add_comm, Int32.sub_add_cancel]
  rw [r3, r2 f hf, r1 f hf]
  by_cases hp : p2 = p
  · subst hp
    by_cases h0 : f = 0
    · simp [h0]
    · by_cases h4 : f = 4
      · simp [h4]
      · by_cases h5 : f = 5
        · simp [h5]
        · simp [h0, h4, h5]
  · simp [hp]
theorem aT3_mOk {s : Nat → Int32} (h : mOk s) (p : Nat) (q : Int32) : mOk (aT3 s p q) := by
  intro p2 hp2
  rw [aT3_ro s q (by decide : 5 < 6)]
  by_cases hp : p2 = p
  · exact ⟨0, by decide, by simp [hp, nI_0]⟩
  · rw [if_neg hp]; exact h p2 hp2
theorem aT3_lo (s : Nat → Int32) (p : Nat) (q : Int32) {j : Nat} (h : j < 8) : aT3 s p q j = s j := by
  unfold aT3 aT2 aT1
  rw [aAdd_lo _ _ _ _ h, aAdd_lo _ _ _ _ h, aAdd_lo _ _ _ _ h]
theorem aGet_1 (s : Nat → Int32) (p : Nat) (x : Int32) : aGet s p x 1 = s 1 := by
  have hw : 32 ≤ wi p (aMany s p) := by unfold wi; omega
  unfold aGet
  rw [upd_at, if_neg (by decide), aAdd_lo _ _ _ _ (by decide), aAdd_lo _ _ _ _ (by decide), upd_at, if_neg (by omega), upd_at, if_neg (by omega), upd_at, if_neg (by omega), upd_at, if_neg (by omega)]
theorem aBit_1 (s : Nat → Int32) (p : Nat) (q : Int32) : aBit s p q 1 = s 1 := by
  unfold aBit
  rw [upd_at, if_neg (by omega), upd_at, if_neg (by omega)]
  exact aGet_1 s p _
theorem aT4_1 (s : Nat → Int32) (p : Nat) (q : Int32) : aT4 s p q 1 = s 1 := by
  unfold aT4
  split
  · rw [aBit_1, aT3_lo _ _ _ (by decide)]
  · rw [aT3_lo _ _ _ (by decide)]
theorem aHome_1 (s : Nat → Int32) (p : Nat) : aHome s p 1 = s 1 := by
  unfold aHome
  rw [aAdd_lo _ _ _ _ (by decide), upd_at, if_neg (by decide)]
theorem nI_m1 {m : Nat} (h : 0 < m) : nI m + -1 = nI (m - 1) := by
  obtain ⟨j, rfl⟩ : ∃ j, m = j + 1 := ⟨m - 1, by omega⟩
  rw [Int32.add_neg_eq_sub, nI_pred]
  rfl
theorem aCp_lo (s : Nat → Int32) {to fr j : Nat} (h : j < to) : ∀ n, aCp s to fr n j = s j
  | 0 => rfl
  | n + 1 => by
    show upd (aCp s to fr n) _ _ j = _
    rw [upd_at, if_neg (by omega)]
    exact aCp_lo s h n
theorem aS3_lo (s : Nat → Int32) (p k b : Nat) {j : Nat} (h : j < 32) : aS3 s p k b j = s j := by
  have hw : 32 ≤ wi b (aMany s b) := by unfold wi; omega
  unfold aS3
  rw [upd_at, if_neg (by omega), upd_at, if_neg (by omega)]
  exact aCp_lo s (by omega) 4
theorem aS5_5 {s : Nat → Int32} (hm : mOk s) {p k b : Nat} (hp : p < 4) (hb : b < 4) (hk : k < aMany s p) (hpb : ¬ p = b) : aS5 s p k b (8 + 6 * p + 5) = nI (aMany s p - 1) := by
  show ro (aS5 s p k b) p 5 = _
  unfold aS5
  rw [ro_aAdd _ _ (by decide) (by decide), if_pos ⟨rfl, rfl⟩, ro_aAdd _ _ (by decide) (by decide), if_neg (fun h => hpb h.1)]
  have e : ro (aS3 s p k b) p 5 = ro s p 5 := by unfold ro; exact aS3_lo s p k b (by omega)
  rw [e, (hm.many hp).2, nI_m1 (by omega)]
set_option maxHeartbeats 4000000 in
set_option maxRecDepth 100000 in
theorem lp_turn108 (l : Launch) (g : fw_G) {I : fw_I} {P : fw_P} {s : Nat → Int32} (hM : MSh P) (hs1 : ∃ p1, p1 < 4 ∧ s 1 = nI p1) {p : Nat} (d q b : Int32) : V l g kX8_doTurn T0 0 0 (qJ (fun r I1 P1 => r = q ∧ I1 = wr I 689 (aNoF 4 0 (upd (aSlF s 10) 0 (aSlF s 10 0 + 1))) ∧ P1 = P)) T0 (wr I 689 (s)) P 0 0 108 [some (.ref (g.1 + 688)), some (.int d), some (.int (nI p)), some (.int b), some (.int q), none] [] := by
  have hs2 : ∃ p1, p1 < 4 ∧ upd (aSlF s 10) 0 (aSlF s 10 0 + 1) 1 = nI p1 := by
    rw [upd_at, if_neg (by decide), aSlF_lo s (by decide)]
    exact hs1
  refine V_iconst (v := 0) (by decide) dX8_doTurn_108 rfl ?_
  refine V_istore (i := 5) (by decide) rfl dX8_doTurn_109 rfl ?_
  exact lp_turnSl l g hM hs2 d q b 10 0 rfl

set_option maxHeartbeats 4000000 in
set_option maxRecDepth 100000 in
theorem lp_turn79 (l : Launch) (g : fw_G) {I : fw_I} {P : fw_P} {s : Nat → Int32} (hM : MSh P) (hs1 : ∃ p1, p1 < 4 ∧ s 1 = nI p1) {p : Nat} (hp : p < 4) (d q b : Int32) : V l g kX8_doTurn T0 0 0 (qJ (fun r I1 P1 => r = q ∧ I1 = wr I 689 (aNoF 4 0 (upd (aSlF (if q = 60 then aHome s p else s) 10) 0 (aSlF (if q = 60 then aHome s p else s) 10 0 + 1))) ∧ P1 = P)) T0 (wr I 689 (s)) P 0 0 79 [some (.ref (g.1 + 688)), some (.int d), some (.int (nI p)), some (.int b), some (.int q), none] [] := by
  have a688 := at_688
  have a689 := at_689
  obtain ⟨p0, p1, p3, p5, p6, p10, p12, p13⟩ := id hM
  refine V_iload (i := 4) rfl dX8_doTurn_79 rfl ?_
  refine V_bipush (v := 60) (by decide) dX8_doTurn_81 rfl ?_
  refine V_icmp_ne (tgt := 108) dX8_doTurn_83 (by decide) rfl (fun h_83 => ?_) (fun h_83 => ?_)
  · first
      | (rw [if_neg h_83]; exact lp_turn108 l g hM hs1 d q b)
      | (rw [if_pos h_83]; exact lp_turn108 (s := aHome s p) l g hM (by rw [aHome_1]; exact hs1) d q b)
  · refine V_aload_n (i := 0) rfl rfl dX8_doTurn_86 rfl ?_
    refine V_getr (kf := 0) C8 (by decide) l_X8_7 (by assumption) rfl (by assumption) dX8_doTurn_87 rfl ?_
    refine V_iconst (v := 4) (by decide) dX8_doTurn_90 rfl ?_
    refine V_dup2 rfl rfl dX8_doTurn_91 rfl ?_
    refine V_iald9 (by assumption) (fw_ix_nI (j := 4) (by decide) (by decide)) dX8_doTurn_92 rfl ?_
    refine V_iconst (v := 1) (by decide) dX8_doTurn_93 rfl ?_
    refine V_iadd dX8_doTurn_94 rfl ?_
    refine V_iast9 (by assumption) (fw_ix_nI (j := 4) (by decide) (by decide)) dX8_doTurn_95 rfl ?_
    refine V_aload_n (i := 0) rfl rfl dX8_doTurn_96 rfl ?_
    refine V_iload_n (i := 2) rfl rfl dX8_doTurn_97 rfl ?_
    refine V_iconst (v := 2) (by decide) dX8_doTurn_98 rfl ?_
    refine V_aload_n (i := 0) rfl rfl dX8_doTurn_99 rfl ?_
    refine V_getr (kf := 0) C8 (by decide) l_X8_7 (by assumption) rfl (by assumption) dX8_doTurn_100 rfl ?_
    refine V_iconst (v := 4) (by decide) dX8_doTurn_103 rfl ?_
    refine V_iald9 (by assumption) (fw_ix_nI (j := 4) (by decide) (by decide)) dX8_doTurn_104 rfl ?_
    refine V_call (n := 3) (sp_add l g hM _ hp (by decide : 2 < 6)) o_X8_add m_X8_71 ⟨by decide, by decide⟩ (by assumption) rfl rfl (by first | exact Nat.le_of_ble_eq_true rfl | simp [Value.category]) (Nat.le_refl _) (Nat.le_refl _) rfl dX8_doTurn_105 rfl (kW ?_)
    first
      | (rw [if_neg h_83]; exact lp_turn108 l g hM hs1 d q b)
      | (rw [if_pos h_83]; exact lp_turn108 (s := aHome s p) l g hM (by rw [aHome_1]; exact hs1) d q b)

set_option maxHeartbeats 4000000 in
set_option maxRecDepth 100000 in
theorem sp_doTurn (l : Launch) (g : fw_G) {I : fw_I} {P : fw_P} {s : Nat → Int32} (hM : MSh P) (hm : mOk s) {p : Nat} (hp : p < 4) (hs : s 1 = nI p) (d : Int32) : Sp l g kX8_doTurn T0 [.ref (g.1 + 688), .int d] (wr I 689 s) P T0 0 0 (qJ (fun r I1 P1 => r = aTq s d ∧ I1 = wr I 689 (aT s d) ∧ P1 = P)) := by
  have a688 := at_688
  have a689 := at_689
  obtain ⟨p0, p1, p3, p5, p6, p10, p12, p13⟩ := id hM
  have hcl : (s 1).toNatClampNeg = p := by rw [hs]; exact nI_clamp (by omega)
  have eT : ∀ {v : Option Value} {I1 : fw_I} {P1 : fw_P} {s4 : Nat → Int32}, qJ (fun r I1 P1 => r = aTq s d ∧ I1 = wr I 689 (aNoF 4 0 (upd (aSlF (if aTq s d = 60 then aHome s4 p else s4) 10) 0 (aSlF (if aTq s d = 60 then aHome s4 p else s4) 10 0 + 1))) ∧ P1 = P) v I1 P1 → aT4 s p (aTq s d) = s4 → qJ (fun r I1 P1 => r = aTq s d ∧ I1 = wr I 689 (aT s d) ∧ P1 = P) v I1 P1 := by
    intro v I1 P1 s4 h e
    subst e
    have e9 : aT s d = aNoF 4 0 (upd (aSlF (if aTq s d = 60 then aHome (aT4 s p (aTq s d)) p else aT4 s p (aTq s d)) 10) 0 (aSlF (if aTq s d = 60 then aHome (aT4 s p (aTq s d)) p else aT4 s p (aTq s d)) 10 0 + 1)) := by
      unfold aT
      rw [hcl]
      rfl
    rw [e9]
    exact h
  refine Sp.of_V (L := [some (.ref (g.1 + 688)), some (.int d), none, none, none, none]) (by decide) (by simp [Value.category]) (Nat.le_of_ble_eq_true rfl) rfl ?_
  refine V_aload_n (i := 0) rfl rfl dX8_doTurn_0 rfl ?_
  refine V_getr (kf := 0) C8 (by decide) l_X8_7 (by assumption) rfl (by assumption) dX8_doTurn_1 rfl ?_
  refine V_iconst (v := 1) (by decide) dX8_doTurn_4 rfl ?_
  refine V_iald9 (by assumption) (fw_ix_nI (j := 1) (by decide) (by decide)) dX8_doTurn_5 rfl ?_
  rw [hs]
  refine V_istore_n (i := 2) rfl (by decide) rfl dX8_doTurn_6 rfl ?_
  refine V_aload_n (i := 0) rfl rfl dX8_doTurn_7 rfl ?_
  refine V_iload_n (i := 2) rfl rfl dX8_doTurn_8 rfl ?_
  refine V_call (n := 1) (sp_beginsAt l g hM hm hp) o_X8_beginsAt m_X8_79 ⟨by decide, by decide⟩ (by assumption) rfl rfl (by first | exact Nat.le_of_ble_eq_true rfl | simp [Value.category]) (Nat.le_refl _) (Nat.le_refl _) rfl dX8_doTurn_9 rfl (kI ?_)
  refine V_istore_n (i := 3) rfl (by decide) rfl dX8_doTurn_12 rfl ?_
  refine V_aload_n (i := 0) rfl rfl dX8_doTurn_13 rfl ?_
  refine V_iload_n (i := 2) rfl rfl dX8_doTurn_14 rfl ?_
  refine V_iconst (v := 4) (by decide) dX8_doTurn_15 rfl ?_
  refine V_aload_n (i := 0) rfl rfl dX8_doTurn_16 rfl ?_
  refine V_iload_n (i := 2) rfl rfl dX8_doTurn_17 rfl ?_
  refine V_iconst (v := 0) (by decide) dX8_doTurn_18 rfl ?_
  refine V_call (n := 2) (sp_of l g hM hp (by decide : 0 < 6)) o_X8_of m_X8_43 ⟨by decide, by decide⟩ (by assumption) rfl rfl (by first | exact Nat.le_of_ble_eq_true rfl | simp [Value.category]) (Nat.le_refl _) (Nat.le_refl _) rfl dX8_doTurn_19 rfl (kI ?_)
  refine V_iload_n (i := 3) rfl rfl dX8_doTurn_22 rfl ?_
  refine V_isub dX8_doTurn_23 rfl ?_
  refine V_call (n := 3) (sp_add l g hM (ro s p 0 - aBeg s p) hp (by decide : 4 < 6)) o_X8_add m_X8_71 ⟨by decide, by decide⟩ (by assumption) rfl rfl (by first | exact Nat.le_of_ble_eq_true rfl | simp [Value.category]) (Nat.le_refl _) (Nat.le_refl _) rfl dX8_doTurn_24 rfl (kW ?_)
  refine V_aload_n (i := 0) rfl rfl dX8_doTurn_27 rfl ?_
  refine V_iload_n (i := 2) rfl rfl dX8_doTurn_28 rfl ?_
  refine V_iconst (v := 5) (by decide) dX8_doTurn_29 rfl ?_
  refine V_aload_n (i := 0) rfl rfl dX8_doTurn_30 rfl ?_
  refine V_iload_n (i := 2) rfl rfl dX8_doTurn_31 rfl ?_
  refine V_iconst (v := 5) (by decide) dX8_doTurn_32 rfl ?_
  refine V_call (n := 2) (sp_of l g hM hp (by decide : 5 < 6)) o_X8_of m_X8_43 ⟨by decide, by decide⟩ (by assumption) rfl rfl (by first | exact Nat.le_of_ble_eq_true rfl | simp [Value.category]) (Nat.le_refl _) (Nat.le_refl _) rfl dX8_doTurn_33 rfl (kI ?_)
  refine V_ineg dX8_doTurn_36 rfl ?_
  refine V_call (n := 3) (sp_add l g hM (- ro (aT1 s p) p 5) hp (by decide : 5 < 6)) o_X8_add m_X8_71 ⟨by decide, by decide⟩ (by assumption) rfl rfl (by first | exact Nat.le_of_ble_eq_true rfl | simp [Value.category]) (Nat.le_refl _) (Nat.le_refl _) rfl dX8_doTurn_37 rfl (kW ?_)
  refine V_iload_n (i := 3) rfl rfl dX8_doTurn_40 rfl ?_
  refine V_iload_n (i := 1) rfl rfl dX8_doTurn_41 rfl ?_
  have e42 : aGo (aBeg s p) d = aTq s d := by unfold aTq; rw [hs, nI_clamp (by omega)]
  refine V_callS (n := 2) (sp_goOn l g _ _ (aBeg s p) d) o_X8_goOn m_X8_82 ⟨by decide, by decide⟩ rfl rfl (by first | exact Nat.le_of_ble_eq_true rfl | simp [Value.category]) (Nat.le_refl _) (Nat.le_refl _) rfl dX8_doTurn_42 rfl (kI ?_)
  rw [e42]
  refine V_istore (i := 4) (by decide) rfl dX8_doTurn_45 rfl ?_
  refine V_aload_n (i := 0) rfl rfl dX8_doTurn_47 rfl ?_
  refine V_iload_n (i := 2) rfl rfl dX8_doTurn_48 rfl ?_
  refine V_iconst (v := 0) (by decide) dX8_doTurn_49 rfl ?_
  refine V_iload (i := 4) rfl dX8_doTurn_50 rfl ?_
  refine V_aload_n (i := 0) rfl rfl dX8_doTurn_52 rfl ?_
  refine V_iload_n (i := 2) rfl rfl dX8_doTurn_53 rfl ?_
  refine V_iconst (v := 0) (by decide) dX8_doTurn_54 rfl ?_
  refine V_call (n := 2) (sp_of l g hM hp (by decide : 0 < 6)) o_X8_of m_X8_43 ⟨by decide, by decide⟩ (by assumption) rfl rfl (by first | exact Nat.le_of_ble_eq_true rfl | simp [Value.category]) (Nat.le_refl _) (Nat.le_refl _) rfl dX8_doTurn_55 rfl (kI ?_)
  refine V_isub dX8_doTurn_58 rfl ?_
  refine V_call (n := 3) (sp_add l g hM (aTq s d - ro (aT2 s p) p 0) hp (by decide : 0 < 6)) o_X8_add m_X8_71 ⟨by decide, by decide⟩ (by assumption) rfl rfl (by first | exact Nat.le_of_ble_eq_true rfl | simp [Value.category]) (Nat.le_refl _) (Nat.le_refl _) rfl dX8_doTurn_59 rfl (kW ?_)
  refine V_aload_n (i := 0) rfl rfl dX8_doTurn_62 rfl ?_
  refine V_iload_n (i := 2) rfl rfl dX8_doTurn_63 rfl ?_
  refine V_iload (i := 4) rfl dX8_doTurn_64 rfl ?_
  refine V_call (n := 2) (sp_bites l g hM hp (aTq s d)) o_X8_bites m_X8_85 ⟨by decide, by decide⟩ (by assumption) rfl rfl (by first | exact Nat.le_of_ble_eq_true rfl | simp [Value.category]) (Nat.le_refl _) (Nat.le_refl _) rfl dX8_doTurn_66 rfl (kB (fun r66 hb66 => ?_))
  refine V_if_eq (tgt := 79) dX8_doTurn_69 (by decide) rfl (fun h_69 => ?_) (fun h_69 => ?_)
  · have h9 := lp_turn79 (I := I) (P := P) (s := aT4 s p (aTq s d)) l g hM ⟨p, hp, by rw [aT4_1]; exact hs⟩ hp d (aTq s d) (aBeg s p)
    first
      | (have e4 : aT4 s p (aTq s d) = aT3 s p (aTq s d) := if_neg (hb66.elim (fun h => absurd (h.1.symm.trans h_69) (by decide)) (fun h => h.2))
         rw [e4] at h9
         exact V_Q (fun v I1 P1 hv => eT hv e4) h9)
      | (have e4 : aT4 s p (aTq s d) = aBit (aT3 s p (aTq s d)) p (aTq s d) := if_pos hb67
         rw [e4] at h9
         exact V_Q (fun v I1 P1 hv => eT hv e4) h9)
  · have hb67 := hb66.elim (fun h => h.2) (fun h => absurd h.1 h_69)
    refine V_aload_n (i := 0) rfl rfl dX8_doTurn_72 rfl ?_
    refine V_iload_n (i := 2) rfl rfl dX8_doTurn_73 rfl ?_
    refine V_iload (i := 4) rfl dX8_doTurn_74 rfl ?_
    refine V_call (n := 2) (sp_beBitten l g hM (aT3_mOk hm p (aTq s d)) hp (aTq s d) hb67.1) o_X8_beBitten m_X8_89 ⟨by decide, by decide⟩ (by assumption) rfl rfl (by first | exact Nat.le_of_ble_eq_true rfl | simp [Value.category]) (Nat.le_refl _) (Nat.le_refl _) rfl dX8_doTurn_76 rfl (kW ?_)
    have h9 := lp_turn79 (I := I) (P := P) (s := aT4 s p (aTq s d)) l g hM ⟨p, hp, by rw [aT4_1]; exact hs⟩ hp d (aTq s d) (aBeg s p)
    first
      | (have e4 : aT4 s p (aTq s d) = aT3 s p (aTq s d) := if_neg (hb66.elim (fun h => absurd (h.1.symm.trans h_69) (by decide)) (fun h => h.2))
         rw [e4] at h9
         exact V_Q (fun v I1 P1 hv => eT hv e4) h9)
      | (have e4 : aT4 s p (aTq s d) = aBit (aT3 s p (aTq s d)) p (aTq s d) := if_pos hb67
         rw [e4] at h9
         exact V_Q (fun v I1 P1 hv => eT hv e4) h9)

set_option maxHeartbeats 4000000 in
set_option maxRecDepth 100000 in
theorem sp_asks (l : Launch) (g : fw_G) {I : fw_I} {P : fw_P} {s : Nat → Int32} (hM : MSh P) (x : Int32) {p : Nat} (hp : p < 4) : Sp l g kX8_asks T0 [.ref (g.1 + 688), .int x, .int (nI p)] (wr I 689 s) P T0 0 0 (qI (aAsk s x p) (wr I 689 s) P) := by
  have a688 := at_688
  have a689 := at_689
  obtain ⟨p0, p1, p3, p5, p6, p10, p12, p13⟩ := id hM
  refine Sp.of_V (L := [some (.ref (g.1 + 688)), some (.int x), some (.int (nI p))]) (by decide) (by simp [Value.category]) (Nat.le_of_ble_eq_true rfl) rfl ?_
  refine V_iload_n (i := 1) rfl rfl dX8_asks_0 rfl ?_
  refine V_iconst (v := 2) (by decide) dX8_asks_1 rfl ?_
  refine V_iadd dX8_asks_2 rfl ?_
  refine V_iconst (v := 3) (by decide) dX8_asks_3 rfl ?_
  refine V_idiv (by decide) dX8_asks_4 rfl ?_
  refine V_iconst (v := 2) (by decide) dX8_asks_5 rfl ?_
  refine V_aload_n (i := 0) rfl rfl dX8_asks_6 rfl ?_
  refine V_iload_n (i := 2) rfl rfl dX8_asks_7 rfl ?_
  refine V_iconst (v := 5) (by decide) dX8_asks_8 rfl ?_
  refine V_call (n := 2) (sp_of l g hM hp (by decide : 5 < 6)) o_X8_of m_X8_43 ⟨by decide, by decide⟩ (by assumption) rfl rfl (by first | exact Nat.le_of_ble_eq_true rfl | simp [Value.category]) (Nat.le_refl _) (Nat.le_refl _) rfl dX8_asks_9 rfl (kI ?_)
  refine V_imul dX8_asks_12 rfl ?_
  refine V_iadd dX8_asks_13 rfl ?_
  exact V_ireturn rfl rfl dX8_asks_14 rfl rfl rfl (qI.of rfl)

set_option maxHeartbeats 4000000 in
set_option maxRecDepth 100000 in
theorem sp_reason (l : Launch) (g : fw_G) {I : fw_I} {P : fw_P} {s : Nat → Int32} (hM : MSh P) {p k b : Nat} (hp : p < 4) (hk : k < 20) (hb : b < 4) (c : Int32) : Sp l g kX8_reason T0 [.ref (g.1 + 688), .int (nI p), .int (nI k), .int (nI b), .int c] (wr I 689 s) P T0 0 0 (qI (aRea s p k b c) (wr I 689 s) P) := by
  have a688 := at_688
  have a689 := at_689
  obtain ⟨p0, p1, p3, p5, p6, p10, p12, p13⟩ := id hM
  refine Sp.of_V (L := [some (.ref (g.1 + 688)), some (.int (nI p)), some (.int (nI k)), some (.int (nI b)), some (.int c), none]) (by decide) (by simp [Value.category]) (Nat.le_of_ble_eq_true rfl) rfl ?_
  refine V_iload_n (i := 1) rfl rfl dX8_reason_0 rfl ?_
  refine V_iload_n (i := 2) rfl rfl dX8_reason_1 rfl ?_
  refine V_callS (n := 2) (sp_whereIs l g _ P p k) o_X8_whereIs m_X8_58 ⟨by decide, by decide⟩ rfl rfl (by first | exact Nat.le_of_ble_eq_true rfl | simp [Value.category]) (Nat.le_refl _) (Nat.le_refl _) rfl dX8_reason_2 rfl (kI ?_)
  refine V_istore (i := 5) (by decide) rfl dX8_reason_5 rfl ?_
  refine V_aload_n (i := 0) rfl rfl dX8_reason_7 rfl ?_
  refine V_iload_n (i := 3) rfl rfl dX8_reason_8 rfl ?_
  refine V_call (n := 1) (sp_isIn l g hM hb) o_X8_isIn m_X8_96 ⟨by decide, by decide⟩ (by assumption) rfl rfl (by first | exact Nat.le_of_ble_eq_true rfl | simp [Value.category]) (Nat.le_refl _) (Nat.le_refl _) rfl dX8_reason_9 rfl (kI ?_)
  refine V_if_ne (tgt := 17) dX8_reason_12 (by decide) rfl (fun h_12 => ?_) (fun h_12 => ?_)
  · refine V_aload_n (i := 0) rfl rfl dX8_reason_17 rfl ?_
    refine V_getr (kf := 0) C8 (by decide) l_X8_7 (by assumption) rfl (by assumption) dX8_reason_18 rfl ?_
    refine V_iload (i := 5) rfl dX8_reason_21 rfl ?_
    refine V_iconst (v := 1) (by decide) dX8_reason_23 rfl ?_
    refine V_iadd dX8_reason_24 rfl ?_
    refine V_iald9 (by assumption) (ix_wi hp hk (by decide : 1 < 4)) dX8_reason_25 rfl ?_
    refine V_aload_n (i := 0) rfl rfl dX8_reason_26 rfl ?_
    refine V_getr (kf := 0) C8 (by decide) l_X8_7 (by assumption) rfl (by assumption) dX8_reason_27 rfl ?_
    refine V_bipush (v := 7) (by decide) dX8_reason_30 rfl ?_
    refine V_iald9 (by assumption) (fw_ix_nI (j := 7) (by decide) (by decide)) dX8_reason_32 rfl ?_
    refine V_icmp_lt (tgt := 38) dX8_reason_33 (by decide) rfl (fun h_33 => ?_) (fun h_33 => ?_)
    · refine V_aload_n (i := 0) rfl rfl dX8_reason_38 rfl ?_
      refine V_getr (kf := 0) C8 (by decide) l_X8_7 (by assumption) rfl (by assumption) dX8_reason_39 rfl ?_
      refine V_iload (i := 5) rfl dX8_reason_42 rfl ?_
      refine V_iconst (v := 3) (by decide) dX8_reason_44 rfl ?_
      refine V_iadd dX8_reason_45 rfl ?_
      refine V_iald9 (by assumption) (ix_wi hp hk (by decide : 3 < 4)) dX8_reason_46 rfl ?_
      refine V_iload_n (i := 3) rfl rfl dX8_reason_47 rfl ?_
      refine V_ishr dX8_reason_48 rfl ?_
      refine V_iconst (v := 1) (by decide) dX8_reason_49 rfl ?_
      refine V_iand dX8_reason_50 rfl ?_
      refine V_iconst (v := 1) (by decide) dX8_reason_51 rfl ?_
      refine V_icmp_ne (tgt := 57) dX8_reason_52 (by decide) rfl (fun h_52 => ?_) (fun h_52 => ?_)
      · refine V_aload_n (i := 0) rfl rfl dX8_reason_57 rfl ?_
        refine V_iload_n (i := 1) rfl rfl dX8_reason_58 rfl ?_
        refine V_iconst (v := 1) (by decide) dX8_reason_59 rfl ?_
        refine V_call (n := 2) (sp_of l g hM hp (by decide : 1 < 6)) o_X8_of m_X8_43 ⟨by decide, by decide⟩ (by assumption) rfl rfl (by first | exact Nat.le_of_ble_eq_true rfl | simp [Value.category]) (Nat.le_refl _) (Nat.le_refl _) rfl dX8_reason_60 rfl (kI ?_)
        refine V_iload (i := 4) rfl dX8_reason_63 rfl ?_
        refine V_isub dX8_reason_65 rfl ?_
        refine V_aload_n (i := 0) rfl rfl dX8_reason_66 rfl ?_
        refine V_getr (kf := 0) C8 (by decide) l_X8_7 (by assumption) rfl (by assumption) dX8_reason_67 rfl ?_
        refine V_bipush (v := 6) (by decide) dX8_reason_70 rfl ?_
        refine V_iald9 (by assumption) (fw_ix_nI (j := 6) (by decide) (by decide)) dX8_reason_72 rfl ?_
        refine V_ineg dX8_reason_73 rfl ?_
        refine V_icmp_ge (tgt := 79) dX8_reason_74 (by decide) rfl (fun h_74 => ?_) (fun h_74 => ?_)
        · refine V_iload (i := 4) rfl dX8_reason_79 rfl ?_
          refine V_aload_n (i := 0) rfl rfl dX8_reason_81 rfl ?_
          refine V_aload_n (i := 0) rfl rfl dX8_reason_82 rfl ?_
          refine V_getr (kf := 0) C8 (by decide) l_X8_7 (by assumption) rfl (by assumption) dX8_reason_83 rfl ?_
          refine V_iload (i := 5) rfl dX8_reason_86 rfl ?_
          refine V_iconst (v := 0) (by decide) dX8_reason_88 rfl ?_
          refine V_iadd dX8_reason_89 rfl ?_
          refine V_iald9 (by assumption) (ix_wi hp hk (by decide : 0 < 4)) dX8_reason_90 rfl ?_
          refine V_iload_n (i := 3) rfl rfl dX8_reason_91 rfl ?_
          refine V_call (n := 2) (sp_asks l g hM (s (wi p k + 0)) hb) o_X8_asks m_X8_100 ⟨by decide, by decide⟩ (by assumption) rfl rfl (by first | exact Nat.le_of_ble_eq_true rfl | simp [Value.category]) (Nat.le_refl _) (Nat.le_refl _) rfl dX8_reason_92 rfl (kI ?_)
          refine V_icmp_ge (tgt := 102) dX8_reason_95 (by decide) rfl (fun h_95 => ?_) (fun h_95 => ?_)
          · refine V_iconst (v := 0) (by decide) dX8_reason_102 rfl ?_
            exact V_ireturn rfl rfl dX8_reason_103 rfl rfl rfl (qI.of (by unfold aRea; rw [if_neg (fun h => h (bI_nz h_12)), if_neg (Int32.not_le.mpr h_33), if_neg h_52, if_neg (Int32.not_lt.mpr h_74)]; first | rw [if_neg (Int32.not_lt.mpr h_95)] | rw [if_pos (Int32.not_le.mp h_95)]))
          · refine V_iconst (v := 5) (by decide) dX8_reason_98 rfl ?_
            refine V_goto (tgt := 103) dX8_reason_99 (by decide) ?_
            exact V_ireturn rfl rfl dX8_reason_103 rfl rfl rfl (qI.of (by unfold aRea; rw [if_neg (fun h => h (bI_nz h_12)), if_neg (Int32.not_le.mpr h_33), if_neg h_52, if_neg (Int32.not_lt.mpr h_74)]; first | rw [if_neg (Int32.not_lt.mpr h_95)] | rw [if_pos (Int32.not_le.mp h_95)]))
        · refine V_iconst (v := 4) (by decide) dX8_reason_77 rfl ?_
          exact V_ireturn rfl rfl dX8_reason_78 rfl rfl rfl (qI.of (by unfold aRea; rw [if_neg (fun h => h (bI_nz h_12)), if_neg (Int32.not_le.mpr h_33), if_neg h_52, if_pos (Int32.not_le.mp h_74)]))
      · refine V_iconst (v := 3) (by decide) dX8_reason_55 rfl ?_
        exact V_ireturn rfl rfl dX8_reason_56 rfl rfl rfl (qI.of (by unfold aRea; rw [if_neg (fun h => h (bI_nz h_12)), if_neg (Int32.not_le.mpr h_33), if_pos h_52]))
    · refine V_iconst (v := 2) (by decide) dX8_reason_36 rfl ?_
      exact V_ireturn rfl rfl dX8_reason_37 rfl rfl rfl (qI.of (by unfold aRea; rw [if_neg (fun h => h (bI_nz h_12)), if_pos (Int32.not_lt.mp h_33)]))
  · refine V_iconst (v := 1) (by decide) dX8_reason_15 rfl ?_
    exact V_ireturn rfl rfl dX8_reason_16 rfl rfl rfl (qI.of (by unfold aRea; rw [if_pos (bI_z h_12)]))

set_option maxHeartbeats 4000000 in
set_option maxRecDepth 100000 in
theorem sp_sellError (l : Launch) (g : fw_G) {I : fw_I} {P : fw_P} {s : Nat → Int32} (hM : MSh P) (x y z c : Int32) : Sp l g kX8_sellError T0 [.ref (g.1 + 688), .int x, .int y, .int z, .int c] (wr I 689 s) P T0 0 0 (qI (aSeE s x y z c) (wr I 689 s) P) := by
  have a688 := at_688
  have a689 := at_689
  obtain ⟨p0, p1, p3, p5, p6, p10, p12, p13⟩ := id hM
  refine Sp.of_V (L := [some (.ref (g.1 + 688)), some (.int x), some (.int y), some (.int z), some (.int c)]) (by decide) (by simp [Value.category]) (Nat.le_of_ble_eq_true rfl) rfl ?_
  refine V_aload_n (i := 0) rfl rfl dX8_sellError_0 rfl ?_
  refine V_iload_n (i := 1) rfl rfl dX8_sellError_1 rfl ?_
  refine V_iload_n (i := 2) rfl rfl dX8_sellError_2 rfl ?_
  refine V_call (n := 2) (sp_isBite l g hM x y) o_X8_isBite m_X8_103 ⟨by decide, by decide⟩ (by assumption) rfl rfl (by first | exact Nat.le_of_ble_eq_true rfl | simp [Value.category]) (Nat.le_refl _) (Nat.le_refl _) rfl dX8_sellError_3 rfl (kI ?_)
  refine V_if_eq (tgt := 16) dX8_sellError_6 (by decide) rfl (fun h_6 => ?_) (fun h_6 => ?_)
  · refine V_iconst (v := (-1)) (by decide) dX8_sellError_16 rfl ?_
    exact V_ireturn rfl rfl dX8_sellError_17 rfl rfl rfl (qI.of (by unfold aSeE; first | rw [if_pos ((fun h => bI_z h_6 h.1) : ¬ (aBt s x y ∧ aPl z))] | rw [if_pos ((fun h => bI_z h_13 h.2) : ¬ (aBt s x y ∧ aPl z))]))
  · refine V_iload_n (i := 3) rfl rfl dX8_sellError_9 rfl ?_
    refine V_callS (n := 1) (sp_isPlayer l g _ P z) o_X8_isPlayer m_X8_39 ⟨by decide, by decide⟩ rfl rfl (by first | exact Nat.le_of_ble_eq_true rfl | simp [Value.category]) (Nat.le_refl _) (Nat.le_refl _) rfl dX8_sellError_10 rfl (kI ?_)
    refine V_if_ne (tgt := 18) dX8_sellError_13 (by decide) rfl (fun h_13 => ?_) (fun h_13 => ?_)
    · refine V_iload (i := 4) rfl dX8_sellError_18 rfl ?_
      refine V_iconst (v := 0) (by decide) dX8_sellError_20 rfl ?_
      refine V_bipush (v := 99) (by decide) dX8_sellError_21 rfl ?_
      refine V_callS (n := 3) (sp_in l g _ P c 0 99) o_X8_in m_X8_35 ⟨by decide, by decide⟩ rfl rfl (by first | exact Nat.le_of_ble_eq_true rfl | simp [Value.category]) (Nat.le_refl _) (Nat.le_refl _) rfl dX8_sellError_23 rfl (kI ?_)
      refine V_if_eq (tgt := 38) dX8_sellError_26 (by decide) rfl (fun h_26 => ?_) (fun h_26 => ?_)
      · refine V_bipush (v := (-2)) (by decide) dX8_sellError_38 rfl ?_
        exact V_ireturn rfl rfl dX8_sellError_40 rfl rfl rfl (qI.of (by unfold aSeE; rw [if_neg (fun h => h ⟨bI_nz h_6, bI_nz h_13⟩)]; first | rw [if_pos (⟨bI_nz h_26, h_31⟩ : (0 ≤ c ∧ c ≤ 99) ∧ ¬ x = z)] | rw [if_neg ((fun h => h.2 h_31) : ¬ ((0 ≤ c ∧ c ≤ 99) ∧ ¬ x = z))] | rw [if_neg ((fun h => bI_z h_26 h.1) : ¬ ((0 ≤ c ∧ c ≤ 99) ∧ ¬ x = z))]))
      · refine V_iload_n (i := 1) rfl rfl dX8_sellError_29 rfl ?_
        refine V_iload_n (i := 3) rfl rfl dX8_sellError_30 rfl ?_
        refine V_icmp_eq (tgt := 38) dX8_sellError_31 (by decide) rfl (fun h_31 => ?_) (fun h_31 => ?_)
        · refine V_bipush (v := (-2)) (by decide) dX8_sellError_38 rfl ?_
          exact V_ireturn rfl rfl dX8_sellError_40 rfl rfl rfl (qI.of (by unfold aSeE; rw [if_neg (fun h => h ⟨bI_nz h_6, bI_nz h_13⟩)]; first | rw [if_pos (⟨bI_nz h_26, h_31⟩ : (0 ≤ c ∧ c ≤ 99) ∧ ¬ x = z)] | rw [if_neg ((fun h => h.2 h_31) : ¬ ((0 ≤ c ∧ c ≤ 99) ∧ ¬ x = z))] | rw [if_neg ((fun h => bI_z h_26 h.1) : ¬ ((0 ≤ c ∧ c ≤ 99) ∧ ¬ x = z))]))
        · refine V_iconst (v := 0) (by decide) dX8_sellError_34 rfl ?_
          refine V_goto (tgt := 40) dX8_sellError_35 (by decide) ?_
          exact V_ireturn rfl rfl dX8_sellError_40 rfl rfl rfl (qI.of (by unfold aSeE; rw [if_neg (fun h => h ⟨bI_nz h_6, bI_nz h_13⟩)]; first | rw [if_pos (⟨bI_nz h_26, h_31⟩ : (0 ≤ c ∧ c ≤ 99) ∧ ¬ x = z)] | rw [if_neg ((fun h => h.2 h_31) : ¬ ((0 ≤ c ∧ c ≤ 99) ∧ ¬ x = z))] | rw [if_neg ((fun h => bI_z h_26 h.1) : ¬ ((0 ≤ c ∧ c ≤ 99) ∧ ¬ x = z))]))
    · refine V_iconst (v := (-1)) (by decide) dX8_sellError_16 rfl ?_
      exact V_ireturn rfl rfl dX8_sellError_17 rfl rfl rfl (qI.of (by unfold aSeE; first | rw [if_pos ((fun h => bI_z h_6 h.1) : ¬ (aBt s x y ∧ aPl z))] | rw [if_pos ((fun h => bI_z h_13 h.2) : ¬ (aBt s x y ∧ aPl z))]))

set_option maxHeartbeats 4000000 in
set_option maxRecDepth 100000 in
theorem lp_sellSh (l : Launch) (g : fw_G) {I : fw_I} {P : fw_P} {s : Nat → Int32} (hM : MSh P) (hm : mOk s) {p k b : Nat} (hp : p < 4) (hk : k < aMany s p) (hb : b < 4) (hpb : ¬ p = b) (c : Int32) : ∀ (n j : Nat) (t : Nat → Int32), j + n = wi p (aMany s p - 1) → wi p k ≤ j → (∀ i, i < 32 → t i = aS5 s p k b i) → aSh n j t = aS6 s p k b → V l g kX8_doSell T0 0 0 (qJ (fun r I1 P1 => r = ro (aS s p k b c) b 1 + 1000 ∧ I1 = wr I 689 (aS s p k b c) ∧ P1 = P)) T0 (wr I 689 (t)) P 0 0 100 [some (.ref (g.1 + 688)), some (.int (nI p)), some (.int (nI k)), some (.int (nI b)), some (.int c), some (.int (nI (wi p k))), some (.int (nI (wi b (aMany s b)))), some (.int (nI j))] [] := by
  have a688 := at_688
  have a689 := at_689
  obtain ⟨p0, p1, p3, p5, p6, p10, p12, p13⟩ := id hM
  have hk20 : k < 20 := Nat.lt_trans hk (hm.many hp).1
  have hb20 := (hm.many hb).1
  have hlt := wi_lt hp hk20
  have hmy := (hm.many hp).1
  have hwm : wi p (aMany s p - 1) = wi p k + 4 * (aMany s p - 1 - k) := by unfold wi; omega
  have hwl : wi p (aMany s p - 1) < 352 := by unfold wi; omega
  intro n
  induction n with
  | zero =>
    intro j t hj hge ht hF
    obtain rfl : j = wi p (aMany s p - 1) := by omega
    have hmm : ro t p 5 = nI (aMany s p - 1) := by
      unfold ro; rw [ht _ (by omega)]; exact aS5_5 hm hp hb hk hpb
    obtain rfl : t = aS6 s p k b := hF
    refine V_iload (i := 7) rfl dX8_doSell_100 rfl ?_
    refine V_iload_n (i := 1) rfl rfl dX8_doSell_102 rfl ?_
    refine V_aload_n (i := 0) rfl rfl dX8_doSell_103 rfl ?_
    refine V_iload_n (i := 1) rfl rfl dX8_doSell_104 rfl ?_
    refine V_iconst (v := 5) (by decide) dX8_doSell_105 rfl ?_
    refine V_call (n := 2) (sp_of l g hM hp (by decide : 5 < 6)) o_X8_of m_X8_43 ⟨by decide, by decide⟩ (by assumption) rfl rfl (by first | exact Nat.le_of_ble_eq_true rfl | simp [Value.category]) (Nat.le_refl _) (Nat.le_refl _) rfl dX8_doSell_106 rfl (kI ?_)
    rw [hmm]
    refine V_callS (n := 2) (sp_whereIs l g _ P p (aMany s p - 1)) o_X8_whereIs m_X8_58 ⟨by decide, by decide⟩ rfl rfl (by first | exact Nat.le_of_ble_eq_true rfl | simp [Value.category]) (Nat.le_refl _) (Nat.le_refl _) rfl dX8_doSell_109 rfl (kI ?_)
    refine V_icmp_ge (tgt := 137) dX8_doSell_112 (by decide) rfl (fun _ => ?_) (fun h => absurd (nI_le (Nat.le_refl _) (by omega)) h)
    refine V_aload_n (i := 0) rfl rfl dX8_doSell_137 rfl ?_
    refine V_iload_n (i := 1) rfl rfl dX8_doSell_138 rfl ?_
    refine V_iconst (v := 1) (by decide) dX8_doSell_139 rfl ?_
    refine V_iload (i := 4) rfl dX8_doSell_140 rfl ?_
    refine V_ineg dX8_doSell_142 rfl ?_
    refine V_call (n := 3) (sp_add l g hM (-c) hp (by decide : 1 < 6)) o_X8_add m_X8_71 ⟨by decide, by decide⟩ (by assumption) rfl rfl (by first | exact Nat.le_of_ble_eq_true rfl | simp [Value.category]) (Nat.le_refl _) (Nat.le_refl _) rfl dX8_doSell_143 rfl (kW ?_)
    refine V_aload_n (i := 0) rfl rfl dX8_doSell_146 rfl ?_
    refine V_iload_n (i := 3) rfl rfl dX8_doSell_147 rfl ?_
    refine V_iconst (v := 1) (by decide) dX8_doSell_148 rfl ?_
    refine V_iload (i := 4) rfl dX8_doSell_149 rfl ?_
    refine V_call (n := 3) (sp_add l g hM c hb (by decide : 1 < 6)) o_X8_add m_X8_71 ⟨by decide, by decide⟩ (by assumption) rfl rfl (by first | exact Nat.le_of_ble_eq_true rfl | simp [Value.category]) (Nat.le_refl _) (Nat.le_refl _) rfl dX8_doSell_151 rfl (kW ?_)
    refine V_aload_n (i := 0) rfl rfl dX8_doSell_154 rfl ?_
    refine V_getr (kf := 0) C8 (by decide) l_X8_7 (by assumption) rfl (by assumption) dX8_doSell_155 rfl ?_
    refine V_iconst (v := 3) (by decide) dX8_doSell_158 rfl ?_
    refine V_dup2 rfl rfl dX8_doSell_159 rfl ?_
    refine V_iald9 (by assumption) (fw_ix_nI (j := 3) (by decide) (by decide)) dX8_doSell_160 rfl ?_
    refine V_iconst (v := 1) (by decide) dX8_doSell_161 rfl ?_
    refine V_iadd dX8_doSell_162 rfl ?_
    refine V_iast9 (by assumption) (fw_ix_nI (j := 3) (by decide) (by decide)) dX8_doSell_163 rfl ?_
    refine V_aload_n (i := 0) rfl rfl dX8_doSell_164 rfl ?_
    refine V_iload_n (i := 3) rfl rfl dX8_doSell_165 rfl ?_
    refine V_iconst (v := 1) (by decide) dX8_doSell_166 rfl ?_
    refine V_call (n := 2) (sp_of l g hM hb (by decide : 1 < 6)) o_X8_of m_X8_43 ⟨by decide, by decide⟩ (by assumption) rfl rfl (by first | exact Nat.le_of_ble_eq_true rfl | simp [Value.category]) (Nat.le_refl _) (Nat.le_refl _) rfl dX8_doSell_167 rfl (kI ?_)
    refine V_sipush (v := 1000) (by decide) dX8_doSell_170 rfl ?_
    refine V_iadd dX8_doSell_173 rfl ?_
    exact V_ireturn rfl rfl dX8_doSell_174 rfl rfl rfl (⟨_, rfl, rfl, rfl, rfl⟩)
  | succ n ih =>
    intro j t hj hge ht hF
    have hmm : ro t p 5 = nI (aMany s p - 1) := by
      unfold ro; rw [ht _ (by omega)]; exact aS5_5 hm hp hb hk hpb
    refine V_iload (i := 7) rfl dX8_doSell_100 rfl ?_
    refine V_iload_n (i := 1) rfl rfl dX8_doSell_102 rfl ?_
    refine V_aload_n (i := 0) rfl rfl dX8_doSell_103 rfl ?_
    refine V_iload_n (i := 1) rfl rfl dX8_doSell_104 rfl ?_
    refine V_iconst (v := 5) (by decide) dX8_doSell_105 rfl ?_
    refine V_call (n := 2) (sp_of l g hM hp (by decide : 5 < 6)) o_X8_of m_X8_43 ⟨by decide, by decide⟩ (by assumption) rfl rfl (by first | exact Nat.le_of_ble_eq_true rfl | simp [Value.category]) (Nat.le_refl _) (Nat.le_refl _) rfl dX8_doSell_106 rfl (kI ?_)
    rw [hmm]
    refine V_callS (n := 2) (sp_whereIs l g _ P p (aMany s p - 1)) o_X8_whereIs m_X8_58 ⟨by decide, by decide⟩ rfl rfl (by first | exact Nat.le_of_ble_eq_true rfl | simp [Value.category]) (Nat.le_refl _) (Nat.le_refl _) rfl dX8_doSell_109 rfl (kI ?_)
    refine V_icmp_ge (tgt := 137) dX8_doSell_112 (by decide) rfl (fun h => absurd h (nI_ge (by omega) (by omega))) (fun _ => ?_)
    refine V_aload_n (i := 0) rfl rfl dX8_doSell_115 rfl ?_
    refine V_getr (kf := 0) C8 (by decide) l_X8_7 (by assumption) rfl (by assumption) dX8_doSell_116 rfl ?_
    refine V_iload (i := 7) rfl dX8_doSell_119 rfl ?_
    refine V_aload_n (i := 0) rfl rfl dX8_doSell_121 rfl ?_
    refine V_getr (kf := 0) C8 (by decide) l_X8_7 (by assumption) rfl (by assumption) dX8_doSell_122 rfl ?_
    refine V_iload (i := 7) rfl dX8_doSell_125 rfl ?_
    refine V_iconst (v := 4) (by decide) dX8_doSell_127 rfl ?_
    refine V_iadd dX8_doSell_128 rfl ?_
    refine V_iald9 (by assumption) (by rw [show (4 : Int32) = nI 4 from rfl, nI_add]; exact fw_ix_nI (by omega) (by omega)) dX8_doSell_129 rfl ?_
    refine V_iast9 (by assumption) (fw_ix_nI (by omega) (by omega)) dX8_doSell_130 rfl ?_
    refine V_iinc1 (i := 7) rfl (by decide) rfl dX8_doSell_131 rfl ?_
    refine V_goto (tgt := 100) dX8_doSell_134 (by decide) ?_
    have h9 := ih (j + 1) (upd t j (t (j + 4))) (by omega) (by omega) (fun i hi => by rw [upd_at, if_neg (by have : 32 ≤ wi p k := (by unfold wi; omega); omega)]; exact ht i hi) hF
    rw [← nI_1] at h9
    exact h9

set_option maxHeartbeats 4000000 in
set_option maxRecDepth 100000 in
theorem lp_sellCp (l : Launch) (g : fw_G) {I : fw_I} {P : fw_P} {s : Nat → Int32} (hM : MSh P) (hm : mOk s) {p k b : Nat} (hp : p < 4) (hk : k < aMany s p) (hb : b < 4) (hpb : ¬ p = b) (c : Int32) : ∀ (n j : Nat), j + n = 4 → V l g kX8_doSell T0 0 0 (qJ (fun r I1 P1 => r = ro (aS s p k b c) b 1 + 1000 ∧ I1 = wr I 689 (aS s p k b c) ∧ P1 = P)) T0 (wr I 689 (aCp s (wi b (aMany s b)) (wi p k) j)) P 0 0 22 [some (.ref (g.1 + 688)), some (.int (nI p)), some (.int (nI k)), some (.int (nI b)), some (.int c), some (.int (nI (wi p k))), some (.int (nI (wi b (aMany s b)))), some (.int (nI j))] [] := by
  have a688 := at_688
  have a689 := at_689
  obtain ⟨p0, p1, p3, p5, p6, p10, p12, p13⟩ := id hM
  have hk20 : k < 20 := Nat.lt_trans hk (hm.many hp).1
  have hb20 := (hm.many hb).1
  intro n
  induction n with
  | zero =>
    intro j hj
    obtain rfl : j = 4 := by omega
    have hS5 : aSh (4 * (aMany s p - 1 - k)) (wi p k) (aS5 s p k b) = aS6 s p k b := rfl
    refine V_iload (i := 7) rfl dX8_doSell_22 rfl ?_
    refine V_iconst (v := 4) (by decide) dX8_doSell_24 rfl ?_
    refine V_icmp_ge (tgt := 54) dX8_doSell_25 (by decide) rfl (fun _ => ?_) (fun h => absurd (nI_le (a := 4) (b := 4) (Nat.le_refl _) (by decide)) h)
    refine V_aload_n (i := 0) rfl rfl dX8_doSell_54 rfl ?_
    refine V_getr (kf := 0) C8 (by decide) l_X8_7 (by assumption) rfl (by assumption) dX8_doSell_55 rfl ?_
    refine V_iload (i := 6) rfl dX8_doSell_58 rfl ?_
    refine V_iconst (v := 1) (by decide) dX8_doSell_60 rfl ?_
    refine V_iadd dX8_doSell_61 rfl ?_
    refine V_dup2 rfl rfl dX8_doSell_62 rfl ?_
    refine V_iald9 (by assumption) (ix_wi hb hb20 (by decide : 1 < 4)) dX8_doSell_63 rfl ?_
    refine V_iconst (v := 1) (by decide) dX8_doSell_64 rfl ?_
    refine V_iadd dX8_doSell_65 rfl ?_
    refine V_iast9 (by assumption) (ix_wi hb hb20 (by decide : 1 < 4)) dX8_doSell_66 rfl ?_
    refine V_aload_n (i := 0) rfl rfl dX8_doSell_67 rfl ?_
    refine V_getr (kf := 0) C8 (by decide) l_X8_7 (by assumption) rfl (by assumption) dX8_doSell_68 rfl ?_
    refine V_iload (i := 6) rfl dX8_doSell_71 rfl ?_
    refine V_iconst (v := 3) (by decide) dX8_doSell_73 rfl ?_
    refine V_iadd dX8_doSell_74 rfl ?_
    refine V_dup2 rfl rfl dX8_doSell_75 rfl ?_
    refine V_iald9 (by assumption) (ix_wi hb hb20 (by decide : 3 < 4)) dX8_doSell_76 rfl ?_
    refine V_iconst (v := 1) (by decide) dX8_doSell_77 rfl ?_
    refine V_iload_n (i := 3) rfl rfl dX8_doSell_78 rfl ?_
    refine V_ishl dX8_doSell_79 rfl ?_
    refine V_ior dX8_doSell_80 rfl ?_
    refine V_iast9 (by assumption) (ix_wi hb hb20 (by decide : 3 < 4)) dX8_doSell_81 rfl ?_
    refine V_aload_n (i := 0) rfl rfl dX8_doSell_82 rfl ?_
    refine V_iload_n (i := 3) rfl rfl dX8_doSell_83 rfl ?_
    refine V_iconst (v := 5) (by decide) dX8_doSell_84 rfl ?_
    refine V_iconst (v := 1) (by decide) dX8_doSell_85 rfl ?_
    refine V_call (n := 3) (sp_add l g hM 1 hb (by decide : 5 < 6)) o_X8_add m_X8_71 ⟨by decide, by decide⟩ (by assumption) rfl rfl (by first | exact Nat.le_of_ble_eq_true rfl | simp [Value.category]) (Nat.le_refl _) (Nat.le_refl _) rfl dX8_doSell_86 rfl (kW ?_)
    refine V_aload_n (i := 0) rfl rfl dX8_doSell_89 rfl ?_
    refine V_iload_n (i := 1) rfl rfl dX8_doSell_90 rfl ?_
    refine V_iconst (v := 5) (by decide) dX8_doSell_91 rfl ?_
    refine V_iconst (v := (-1)) (by decide) dX8_doSell_92 rfl ?_
    refine V_call (n := 3) (sp_add l g hM (-1) hp (by decide : 5 < 6)) o_X8_add m_X8_71 ⟨by decide, by decide⟩ (by assumption) rfl rfl (by first | exact Nat.le_of_ble_eq_true rfl | simp [Value.category]) (Nat.le_refl _) (Nat.le_refl _) rfl dX8_doSell_93 rfl (kW ?_)
    refine V_iload (i := 5) rfl dX8_doSell_96 rfl ?_
    refine V_istore (i := 7) (by decide) rfl dX8_doSell_98 rfl ?_
    exact lp_sellSh l g hM hm hp hk hb hpb c (4 * (aMany s p - 1 - k)) (wi p k) (aS5 s p k b) (by unfold wi; omega) (Nat.le_refl _) (fun _ _ => rfl) hS5
  | succ n ih =>
    intro j hj
    have hj4 : j < 4 := by omega
    refine V_iload (i := 7) rfl dX8_doSell_22 rfl ?_
    refine V_iconst (v := 4) (by decide) dX8_doSell_24 rfl ?_
    refine V_icmp_ge (tgt := 54) dX8_doSell_25 (by decide) rfl (fun h => absurd h (nI_ge (b := 4) (by omega) (by decide))) (fun _ => ?_)
    refine V_aload_n (i := 0) rfl rfl dX8_doSell_28 rfl ?_
    refine V_getr (kf := 0) C8 (by decide) l_X8_7 (by assumption) rfl (by assumption) dX8_doSell_29 rfl ?_
    refine V_iload (i := 6) rfl dX8_doSell_32 rfl ?_
    refine V_iload (i := 7) rfl dX8_doSell_34 rfl ?_
    refine V_iadd dX8_doSell_36 rfl ?_
    refine V_aload_n (i := 0) rfl rfl dX8_doSell_37 rfl ?_
    refine V_getr (kf := 0) C8 (by decide) l_X8_7 (by assumption) rfl (by assumption) dX8_doSell_38 rfl ?_
    refine V_iload (i := 5) rfl dX8_doSell_41 rfl ?_
    refine V_iload (i := 7) rfl dX8_doSell_43 rfl ?_
    refine V_iadd dX8_doSell_45 rfl ?_
    refine V_iald9 (by assumption) (ix_wi hp hk20 hj4) dX8_doSell_46 rfl ?_
    refine V_iast9 (by assumption) (ix_wi hb hb20 hj4) dX8_doSell_47 rfl ?_
    refine V_iinc1 (i := 7) rfl (by decide) rfl dX8_doSell_48 rfl ?_
    refine V_goto (tgt := 22) dX8_doSell_51 (by decide) ?_
    have h9 := ih (j + 1) (by omega)
    rw [← nI_1] at h9
    exact h9

set_option maxHeartbeats 4000000 in
set_option maxRecDepth 100000 in
theorem sp_doSell (l : Launch) (g : fw_G) {I : fw_I} {P : fw_P} {s : Nat → Int32} (hM : MSh P) (hm : mOk s) {p k b : Nat} (hp : p < 4) (hk : k < aMany s p) (hb : b < 4) (hpb : ¬ p = b) (c : Int32) : Sp l g kX8_doSell T0 [.ref (g.1 + 688), .int (nI p), .int (nI k), .int (nI b), .int c] (wr I 689 s) P T0 0 0 (qJ (fun r I1 P1 => r = ro (aS s p k b c) b 1 + 1000 ∧ I1 = wr I 689 (aS s p k b c) ∧ P1 = P)) := by
  have a688 := at_688
  have a689 := at_689
  obtain ⟨p0, p1, p3, p5, p6, p10, p12, p13⟩ := id hM
  refine Sp.of_V (L := [some (.ref (g.1 + 688)), some (.int (nI p)), some (.int (nI k)), some (.int (nI b)), some (.int c), none, none, none]) (by decide) (by simp [Value.category]) (Nat.le_of_ble_eq_true rfl) rfl ?_
  refine V_iload_n (i := 1) rfl rfl dX8_doSell_0 rfl ?_
  refine V_iload_n (i := 2) rfl rfl dX8_doSell_1 rfl ?_
  refine V_callS (n := 2) (sp_whereIs l g _ P p k) o_X8_whereIs m_X8_58 ⟨by decide, by decide⟩ rfl rfl (by first | exact Nat.le_of_ble_eq_true rfl | simp [Value.category]) (Nat.le_refl _) (Nat.le_refl _) rfl dX8_doSell_2 rfl (kI ?_)
  refine V_istore (i := 5) (by decide) rfl dX8_doSell_5 rfl ?_
  refine V_iload_n (i := 3) rfl rfl dX8_doSell_7 rfl ?_
  refine V_aload_n (i := 0) rfl rfl dX8_doSell_8 rfl ?_
  refine V_iload_n (i := 3) rfl rfl dX8_doSell_9 rfl ?_
  refine V_iconst (v := 5) (by decide) dX8_doSell_10 rfl ?_
  refine V_call (n := 2) (sp_of l g hM hb (by decide : 5 < 6)) o_X8_of m_X8_43 ⟨by decide, by decide⟩ (by assumption) rfl rfl (by first | exact Nat.le_of_ble_eq_true rfl | simp [Value.category]) (Nat.le_refl _) (Nat.le_refl _) rfl dX8_doSell_11 rfl (kI ?_)
  rw [(hm.many hb).2]
  refine V_callS (n := 2) (sp_whereIs l g _ P b (aMany s b)) o_X8_whereIs m_X8_58 ⟨by decide, by decide⟩ rfl rfl (by first | exact Nat.le_of_ble_eq_true rfl | simp [Value.category]) (Nat.le_refl _) (Nat.le_refl _) rfl dX8_doSell_14 rfl (kI ?_)
  refine V_istore (i := 6) (by decide) rfl dX8_doSell_17 rfl ?_
  refine V_iconst (v := 0) (by decide) dX8_doSell_19 rfl ?_
  refine V_istore (i := 7) (by decide) rfl dX8_doSell_20 rfl ?_
  exact lp_sellCp l g hM hm hp hk hb hpb c 4 0 rfl
end
section
theorem V_forget {l : Launch} {g : fw_G} {k : fw_M} {T T' : fw_T} {mc ms : Nat} {Q : Option Value → fw_I → fw_P → Prop} {I : fw_I} {P : fw_P} {u w pc : Nat} {L L' : List (Option Value)} {st : List Value} (i : Nat) (h : L.set i none = L') (kk : V l g k T' mc ms Q T I P u w pc L' st) : V l g k T' mc ms Q T I P u w pc L st := by
  subst h
  intro p e s m args below meth c H locs ls hC hK hR hS hL
  refine kk p e s m args below meth c H locs ls hC hK hR hS ⟨hL.1, hL.2.1, fun j v hj => ?_⟩
  by_cases hji : j = i
  · subst hji
    have hlt : j < L.length := by
      have := (List.getElem?_eq_some_iff.mp hj).1
      rwa [List.length_set] at this
    rw [List.getElem?_set_self hlt] at hj
    cases hj
  · rw [List.getElem?_set_ne (fun q => hji q.symm)] at hj
    exact hL.2.2 j v hj
/-- a copy of n places -/
def cpF (src dst : Nat → Int32) (f t n : Nat) : Nat → Int32 := fun x => if t ≤ x ∧ x < t + n then src (f + (x - t)) else dst x
theorem cpF_0 (src dst : Nat → Int32) (f t : Nat) : cpF src dst f t 0 = dst := by
  funext x
  unfold cpF
  rw [if_neg (by omega)]
theorem cpF_succ (src dst : Nat → Int32) (f t n : Nat) : upd (cpF src dst f t n) (t + n) (src (f + n)) = cpF src dst f t (n + 1) := by
  funext x
  unfold cpF
  rw [upd_at]
  by_cases h : x = t + n
  · subst h
    rw [if_pos rfl, if_pos (by omega), Nat.add_sub_cancel_left]
  · rw [if_neg h]
    by_cases h2 : t ≤ x ∧ x < t + n
    · rw [if_pos h2, if_pos (by omega)]
    · rw [if_neg h2, if_neg (by omega)]
/-- a shift by 392 -/
def shF (h : Nat → Int32) (n : Nat) : Nat → Int32 := fun x => if x < n then h (392 + x) else h x
theorem shF_0 (h : Nat → Int32) : shF h 0 = h := by
  funext x
  unfold shF
  rw [if_neg (by omega)]
theorem shF_succ (h : Nat → Int32) (n : Nat) : upd (shF h n) n (shF h n (392 + n)) = shF h (n + 1) := by
  funext x
  unfold shF
  rw [upd_at]
  by_cases hx : x = n
  · subst hx
    rw [if_pos rfl, if_neg (by omega), if_pos (by omega)]
  · rw [if_neg hx]
    by_cases h2 : x < n
    · rw [if_pos h2, if_pos (by omega)]
    · rw [if_neg h2, if_neg (by omega)]
def rK (k : Nat) : Nat := if k = 5 then 5 else k + 1
def hrow (I : fw_I) (i : Nat) : Nat → Int32 := fun j => I 690 (392 * i + j)
def rH (k : Nat) (h : Nat → Nat → Int32) (s : Nat → Int32) : Nat → Nat → Int32 := fun i => if i + 1 = rK k then s else if k = 5 then h (i + 1) else h i
/-- what recording does to the reference's cells -/
def RecP (I I1 : fw_I) (k : Nat) : Prop := (∀ a, a ≠ 688 → a ≠ 690 → I1 a = I a) ∧ (∀ f, f ≠ 2 → I1 688 f = I 688 f) ∧ I1 688 2 = nI (rK k) ∧ ∀ i j, i < rK k → j < 392 → hrow I1 i j = rH k (hrow I) (I 689) i j
theorem nI_inj {a b : Nat} (ha : a < 2 ^ 31) (hb : b < 2 ^ 31) (h : nI a = nI b) : a = b := (nI_eq ha hb).mp h
set_option maxHeartbeats 4000000 in
set_option maxRecDepth 100000 in
theorem lp_copy (l : Launch) (g : fw_G) {I : fw_I} {P : fw_P} {a b f t na nb : Nat} (hab : a ≠ b) (ha : fw_at T0 a 9 na) (hb : fw_at T0 b 9 nb) (hf : f + 392 ≤ na) (ht : t + 392 ≤ nb) (hna : na < 4000) (hnb : nb < 4000) : ∀ (n j : Nat), j + n = 392 → V l g kX8_copy T0 0 0 (qV (fun I1 P1 => I1 = wr I b (cpF (I a) (I b) f t 392) ∧ P1 = P)) T0 (wr I b (cpF (I a) (I b) f t j)) P 0 0 3 [some (.ref (g.1 + a)), some (.int (nI f)), some (.ref (g.1 + b)), some (.int (nI t)), some (.int (nI j))] [] := by
  intro n
  induction n with
  | zero =>
    intro j hj
    obtain rfl : j = 392 := by omega
    refine V_iload (i := 4) rfl dX8_copy_3 rfl ?_
    refine V_sipush (v := 392) (by decide) dX8_copy_5 rfl ?_
    refine V_icmp_ge (tgt := 29) dX8_copy_8 (by decide) rfl (fun _ => ?_) (fun h => absurd (nI_le (a := 392) (b := 392) (Nat.le_refl _) (by decide)) h)
    exact V_return rfl dX8_copy_29 rfl rfl rfl (⟨rfl, rfl, rfl⟩)
  | succ n ih =>
    intro j hj
    refine V_iload (i := 4) rfl dX8_copy_3 rfl ?_
    refine V_sipush (v := 392) (by decide) dX8_copy_5 rfl ?_
    refine V_icmp_ge (tgt := 29) dX8_copy_8 (by decide) rfl (fun h => absurd h (nI_ge (b := 392) (by omega) (by decide))) (fun _ => ?_)
    refine V_aload_n (i := 2) rfl rfl dX8_copy_11 rfl ?_
    refine V_iload_n (i := 3) rfl rfl dX8_copy_12 rfl ?_
    refine V_iload (i := 4) rfl dX8_copy_13 rfl ?_
    refine V_iadd dX8_copy_15 rfl ?_
    refine V_aload_n (i := 0) rfl rfl dX8_copy_16 rfl ?_
    refine V_iload_n (i := 1) rfl rfl dX8_copy_17 rfl ?_
    refine V_iload (i := 4) rfl dX8_copy_18 rfl ?_
    refine V_iadd dX8_copy_20 rfl ?_
    refine V_iald (by assumption) (by rw [nI_add]; exact fw_ix_nI (by omega) (by omega)) dX8_copy_21 rfl ?_
    rw [wr_ne _ _ hab]
    refine V_iast9 (by assumption) (by rw [nI_add]; exact fw_ix_nI (by omega) (by omega)) dX8_copy_22 rfl ?_
    refine V_iinc1 (i := 4) rfl (by decide) rfl dX8_copy_23 rfl ?_
    refine V_goto (tgt := 3) dX8_copy_26 (by decide) ?_
    have h9 := ih (j + 1) (by omega)
    rw [← nI_1, ← cpF_succ _ _ _ _ j] at h9
    exact h9

set_option maxHeartbeats 4000000 in
set_option maxRecDepth 100000 in
theorem sp_copy (l : Launch) (g : fw_G) {I : fw_I} {P : fw_P} {a b f t na nb : Nat} (hab : a ≠ b) (ha : fw_at T0 a 9 na) (hb : fw_at T0 b 9 nb) (hf : f + 392 ≤ na) (ht : t + 392 ≤ nb) (hna : na < 4000) (hnb : nb < 4000) : Sp l g kX8_copy T0 [.ref (g.1 + a), .int (nI f), .ref (g.1 + b), .int (nI t)] I P T0 0 0 (qV (fun I1 P1 => I1 = wr I b (cpF (I a) (I b) f t 392) ∧ P1 = P)) := by
  refine Sp.of_V (L := [some (.ref (g.1 + a)), some (.int (nI f)), some (.ref (g.1 + b)), some (.int (nI t)), none]) (by decide) (by simp [Value.category]) (Nat.le_of_ble_eq_true rfl) rfl ?_
  refine V_iconst (v := 0) (by decide) dX8_copy_0 rfl ?_
  refine V_istore (i := 4) (by decide) rfl dX8_copy_1 rfl ?_
  refine V_mem (I' := wr I b (cpF (I a) (I b) f t 0)) (by rw [cpF_0, wr_self]) ?_
  exact lp_copy l g hab ha hb hf ht hna hnb 392 0 rfl

set_option maxHeartbeats 4000000 in
set_option maxRecDepth 100000 in
theorem lp_recSh (l : Launch) (g : fw_G) {I J : fw_I} {P : fw_P} (hM : MSh P) {Q : Option Value → fw_I → fw_P → Prop} (kk : V l g kX8_record T0 0 0 Q T0 (wr I 690 (shF (I 690) 1568)) P 0 0 39 [some (.ref (g.1 + 688)), some (.int (nI 1568))] []) : ∀ (n j : Nat), j + n = 1568 → V l g kX8_record T0 0 0 Q T0 (wr I 690 (shF (I 690) j)) P 0 0 10 [some (.ref (g.1 + 688)), some (.int (nI j))] [] := by
  have a688 := at_688
  have a689 := at_689
  have a690 := at_690
  obtain ⟨p0, p1, p3, p5, p6, p10, p12, p13⟩ := id hM
  intro n
  induction n with
  | zero =>
    intro j hj
    obtain rfl : j = 1568 := by omega
    refine V_iload_n (i := 1) rfl rfl dX8_record_10 rfl ?_
    refine V_sipush (v := 1568) (by decide) dX8_record_11 rfl ?_
    refine V_icmp_ge (tgt := 39) dX8_record_14 (by decide) rfl (fun _ => ?_) (fun h => absurd (nI_le (a := 1568) (b := 1568) (Nat.le_refl _) (by decide)) h)
    exact kk
  | succ n ih =>
    intro j hj
    refine V_iload_n (i := 1) rfl rfl dX8_record_10 rfl ?_
    refine V_sipush (v := 1568) (by decide) dX8_record_11 rfl ?_
    refine V_icmp_ge (tgt := 39) dX8_record_14 (by decide) rfl (fun h => absurd h (nI_ge (b := 1568) (by omega) (by decide))) (fun _ => ?_)
    refine V_aload_n (i := 0) rfl rfl dX8_record_17 rfl ?_
    refine V_getr (kf := 1) C8 (by decide) l_X8_13 (by assumption) rfl (by assumption) dX8_record_18 rfl ?_
    refine V_iload_n (i := 1) rfl rfl dX8_record_21 rfl ?_
    refine V_aload_n (i := 0) rfl rfl dX8_record_22 rfl ?_
    refine V_getr (kf := 1) C8 (by decide) l_X8_13 (by assumption) rfl (by assumption) dX8_record_23 rfl ?_
    refine V_sipush (v := 392) (by decide) dX8_record_26 rfl ?_
    refine V_iload_n (i := 1) rfl rfl dX8_record_29 rfl ?_
    refine V_iadd dX8_record_30 rfl ?_
    refine V_iald9 (by assumption) (by rw [show (392 : Int32) = nI 392 from rfl, nI_add]; exact fw_ix_nI (by omega) (by omega)) dX8_record_31 rfl ?_
    refine V_iast9 (by assumption) (fw_ix_nI (by omega) (by omega)) dX8_record_32 rfl ?_
    refine V_iinc1 (i := 1) rfl (by decide) rfl dX8_record_33 rfl ?_
    refine V_goto (tgt := 10) dX8_record_36 (by decide) ?_
    have h9 := ih (j + 1) (by omega)
    rw [← nI_1, ← shF_succ _ j] at h9
    exact h9

set_option maxHeartbeats 4000000 in
set_option maxRecDepth 100000 in
theorem lp_rec49 (l : Launch) (g : fw_G) {I J : fw_I} {P : fw_P} (hM : MSh P) {k c : Nat} (hc5 : c < 5) (hc : J 688 2 = nI c) (hI : ∀ J1, J1 = up2 (wr J 690 (cpF (J 689) (J 690) 0 (392 * c) 392)) 688 2 (nI c + 1) → RecP I J1 k) {x1 : Option Value} : V l g kX8_record T0 0 0 (qV (fun I1 P1 => RecP I I1 k ∧ P1 = P)) T0 J P 0 0 49 [some (.ref (g.1 + 688)), x1] [] := by
  have a688 := at_688
  have a689 := at_689
  have a690 := at_690
  obtain ⟨p0, p1, p3, p5, p6, p10, p12, p13⟩ := id hM
  refine V_aload_n (i := 0) rfl rfl dX8_record_49 rfl ?_
  refine V_getr (kf := 0) C8 (by decide) l_X8_7 (by assumption) rfl (by assumption) dX8_record_50 rfl ?_
  refine V_iconst (v := 0) (by decide) dX8_record_53 rfl ?_
  refine V_aload_n (i := 0) rfl rfl dX8_record_54 rfl ?_
  refine V_getr (kf := 1) C8 (by decide) l_X8_13 (by assumption) rfl (by assumption) dX8_record_55 rfl ?_
  refine V_sipush (v := 392) (by decide) dX8_record_58 rfl ?_
  refine V_aload_n (i := 0) rfl rfl dX8_record_61 rfl ?_
  refine V_get (kf := 2) C8 (by decide) l_X8_50 (by assumption) rfl dX8_record_62 rfl ?_
  rw [hc, show (392 : Int32) = nI 392 from rfl]
  refine V_imul dX8_record_65 rfl ?_
  rw [nI_mul]
  refine V_callS (n := 4) (sp_copy (f := 0) (t := 392 * c) l g (by decide : (689 : Nat) ≠ 690) at_689 at_690 (by decide) (by omega) (by decide) (by decide)) o_X8_copy m_X8_54 ⟨by decide, by decide⟩ rfl rfl (by first | exact Nat.le_of_ble_eq_true rfl | simp [Value.category]) (Nat.le_refl _) (Nat.le_refl _) rfl dX8_record_66 rfl (kW ?_)
  refine V_aload_n (i := 0) rfl rfl dX8_record_69 rfl ?_
  refine V_dup (by first | rfl | simp [Value.category]) dX8_record_70 rfl ?_
  refine V_get (kf := 2) C8 (by decide) l_X8_50 (by assumption) rfl dX8_record_71 rfl ?_
  rw [show wr J 690 (cpF (J 689) (J 690) 0 (392 * c) 392) 688 2 = nI c from hc]
  refine V_iconst (v := 1) (by decide) dX8_record_74 rfl ?_
  refine V_iadd dX8_record_75 rfl ?_
  refine V_puti (kf := 2) C8 (by decide) rfl l_X8_50 rfl rfl rfl rfl (by assumption) dX8_record_76 rfl ?_
  exact V_return rfl dX8_record_79 rfl rfl rfl (⟨rfl, hI _ rfl, rfl⟩)

theorem rec_lo {I : fw_I} {k : Nat} (hk : k < 5) : RecP I (up2 (wr I 690 (cpF (I 689) (I 690) 0 (392 * k) 392)) 688 2 (nI k + 1)) k := by
  have hr : rK k = k + 1 := if_neg (by omega)
  refine ⟨fun a h1 h2 => by rw [up2_ne _ _ _ h1, wr_ne _ _ h2], fun f hf => by rw [up2_at, if_neg (fun h => hf h.2)]; exact congrFun (wr_ne _ _ (by decide)) f, by rw [up2_same, hr, nI_1], fun i j hi hj => ?_⟩
  rw [hr] at hi
  unfold hrow rH
  rw [up2_ne _ _ _ (by decide), wr_at, hr]
  unfold cpF
  by_cases hik : i = k
  · subst hik
    rw [if_pos (by omega), if_pos rfl]
    exact congrArg (I 689) (by omega)
  · rw [if_neg (by omega), if_neg (by omega), if_neg (by omega)]
theorem rec_hi {I : fw_I} : RecP I (up2 (wr (up2 (wr I 690 (shF (I 690) 1568)) 688 2 (nI 4)) 690 (cpF (up2 (wr I 690 (shF (I 690) 1568)) 688 2 (nI 4) 689) (up2 (wr I 690 (shF (I 690) 1568)) 688 2 (nI 4) 690) 0 (392 * 4) 392)) 688 2 (nI 4 + 1)) 5 := by
  refine ⟨fun a h1 h2 => by rw [up2_ne _ _ _ h1, wr_ne _ _ h2, up2_ne _ _ _ h1, wr_ne _ _ h2], fun f hf => by rw [up2_at, if_neg (fun h => hf h.2), wr_ne _ _ (by decide), up2_at, if_neg (fun h => hf h.2)]; exact congrFun (wr_ne _ _ (by decide)) f, by rw [up2_same, nI_1]; rfl, fun i j hi hj => ?_⟩
  have hi5 : i < 5 := hi
  unfold hrow rH
  rw [up2_ne _ _ _ (by decide), wr_at, up2_ne _ _ _ (by decide), up2_ne _ _ _ (by decide), wr_at, wr_ne _ _ (by decide)]
  unfold cpF shF
  by_cases hik : i = 4
  · subst hik
    rw [if_pos (by omega), if_pos rfl]
    exact congrArg (I 689) (by omega)
  · rw [if_neg (by omega), if_pos (by omega), if_neg (by show ¬ i + 1 = 5; omega), if_pos rfl]
    exact congrArg (I 690) (by omega)

set_option maxHeartbeats 4000000 in
set_option maxRecDepth 100000 in
theorem sp_record (l : Launch) (g : fw_G) {I : fw_I} {P : fw_P} (hM : MSh P) {k : Nat} (hk5 : k ≤ 5) (hk : I 688 2 = nI k) : Sp l g kX8_record T0 [.ref (g.1 + 688)] I P T0 0 0 (qV (fun I1 P1 => RecP I I1 k ∧ P1 = P)) := by
  have a688 := at_688
  have a689 := at_689
  have a690 := at_690
  obtain ⟨p0, p1, p3, p5, p6, p10, p12, p13⟩ := id hM
  refine Sp.of_V (L := [some (.ref (g.1 + 688)), none]) (by decide) (by simp [Value.category]) (Nat.le_of_ble_eq_true rfl) rfl ?_
  refine V_aload_n (i := 0) rfl rfl dX8_record_0 rfl ?_
  refine V_get (kf := 2) C8 (by decide) l_X8_50 (by assumption) rfl dX8_record_1 rfl ?_
  rw [hk]
  refine V_iconst (v := 5) (by decide) dX8_record_4 rfl ?_
  refine V_icmp_ne (tgt := 49) dX8_record_5 (by decide) rfl (fun h_5 => ?_) (fun h_5 => ?_)
  · first
      | exact lp_rec49 (I := I) (J := I) l g hM (by have : k ≠ 5 := fun h => h_5 (by rw [h]; rfl); omega) hk (fun J1 h => h ▸ rec_lo (by have : k ≠ 5 := fun h => h_5 (by rw [h]; rfl); omega))
      | exact lp_rec49 (I := I) (c := 4) l g hM (by decide) (up2_same _ _ _ _) (fun J1 h => h ▸ rec_hi)
  · refine V_iconst (v := 0) (by decide) dX8_record_8 rfl ?_
    refine V_istore_n (i := 1) rfl (by decide) rfl dX8_record_9 rfl ?_
    obtain rfl : k = 5 := nI_inj (by omega) (by decide) h_5
    refine V_mem (I' := wr I 690 (shF (I 690) 0)) (by rw [shF_0, wr_self]) ?_
    refine lp_recSh (J := I) l g hM ?_ 1568 0 rfl
    refine V_aload_n (i := 0) rfl rfl dX8_record_39 rfl ?_
    refine V_dup (by first | rfl | simp [Value.category]) dX8_record_40 rfl ?_
    refine V_get (kf := 2) C8 (by decide) l_X8_50 (by assumption) rfl dX8_record_41 rfl ?_
    rw [show wr I 690 (shF (I 690) 1568) 688 2 = nI 5 from hk, show nI 5 = nI (4 + 1) from rfl]
    refine V_iconst (v := 1) (by decide) dX8_record_44 rfl ?_
    refine V_isub dX8_record_45 rfl ?_
    rw [nI_pred]
    refine V_puti (kf := 2) C8 (by decide) rfl l_X8_50 rfl rfl rfl rfl (by assumption) dX8_record_46 rfl ?_
    exact lp_rec49 (I := I) (c := 4) l g hM (by decide) (up2_same _ _ _ _) (fun J1 h => h ▸ rec_hi)
end
section
theorem sw_cases (n : Nat) (hn : n < 2 ^ 31) (x : Int32) : (x.toInt < 0 ∨ (n : Int) < x.toInt) ∨ ∃ i, i ≤ n ∧ x = nI i := by
  by_cases h : x < 0
  · exact Or.inl (Or.inl (by rw [i32_lt, Int32.toInt_zero] at h; exact h))
  · obtain ⟨j, hj, e⟩ := nI_of h
    by_cases h2 : j ≤ n
    · exact Or.inr ⟨j, h2, e⟩
    · refine Or.inl (Or.inr ?_)
      rw [e, nI_toInt hj]
      omega
theorem sw_ne {n k : Nat} {x : Int32} (h : x.toInt < 0 ∨ (n : Int) < x.toInt) (hk : k ≤ n) (hn : n < 2 ^ 31) : ¬ x = nI k := by
  intro e
  rw [e, nI_toInt (by omega)] at h
  omega
def aPlr (s : Nat → Int32) (p : Nat) (w : Int32) : Int32 :=
  if w = nI 0 then ro s p 0 else if w = nI 1 then ro s p 1 + 1000 else if w = nI 2 then ro s p 5 else if w = nI 3 then aHu s p else if w = nI 4 then aBeg s p
  else if w = nI 5 then (if ro s p 2 = 0 then -5 else ro s p 2) else if w = nI 6 then ro s p 3 else if w = nI 7 then ro s p 4 else -2
def aPlrX (s : Nat → Int32) (x w : Int32) : Int32 := if aPl x then aPlr s x.toNatClampNeg w else -1
def aBitX (s : Nat → Int32) (x y w : Int32) : Int32 := if aBt s x y then (if 0 ≤ w ∧ w ≤ 3 then s (wi x.toNatClampNeg y.toNatClampNeg + w.toNatClampNeg) else -2) else -1
def aSnkX (s : Nat → Int32) (x w : Int32) : Int32 := if aSk s x then (if 0 ≤ w ∧ w ≤ 3 then sn s x.toNatClampNeg w.toNatClampNeg else -2) else -1
def aTaF (s : Nat → Int32) (q : Int32) : Nat → Int32
  | 0 => 0
  | k + 1 => aTaF s q k + bI (0 < sn s k 0 ∧ sn s k 1 = q)
def aSqX (s : Nat → Int32) (q w : Int32) : Int32 := if (0 ≤ q ∧ q ≤ 60) ∧ (0 ≤ w ∧ w ≤ 2) then (if w = 0 then aPi s q else if w = 1 then aSnAt s q else aTaF s q 10) else -2
def aSuF (s : Nat → Int32) (f : Nat) : Nat → Int32
  | 0 => 0
  | p + 1 => aSuF s f p + ro s p f
def aCntX (s : Nat → Int32) (kept len : Int32) (w : Int32) : Int32 :=
  if w = nI 0 then s 0 else if w = nI 1 then (if s 4 = 4 then -5 else s 1) else if w = nI 2 then 4 - s 4 else if w = nI 3 then aCntF s 10 else if w = nI 4 then aSuF s 5 4
  else if w = nI 5 then s 2 else if w = nI 6 then s 3 else if w = nI 7 then aSuF s 1 4 else if w = nI 8 then s 5 else if w = nI 9 then s 6 else if w = nI 10 then s 7 else if w = nI 11 then kept else if w = nI 12 then len else -2
theorem aSeE_cases (s : Nat → Int32) (x y z c : Int32) : (aSeE s x y z c < 0 ∧ (aSeE s x y z c = -1 ∨ aSeE s x y z c = -2)) ∨ (aSeE s x y z c = 0 ∧ (aBt s x y ∧ aPl z) ∧ (0 ≤ c ∧ c ≤ 99) ∧ ¬ x = z) := by
  unfold aSeE
  by_cases h1 : aBt s x y ∧ aPl z
  · rw [if_neg (fun h => h h1)]
    by_cases h2 : (0 ≤ c ∧ c ≤ 99) ∧ ¬ x = z
    · rw [if_pos h2]; exact Or.inr ⟨rfl, h1, h2⟩
    · rw [if_neg h2]; exact Or.inl ⟨by decide, Or.inr rfl⟩
  · rw [if_pos h1]; exact Or.inl ⟨by decide, Or.inl rfl⟩
def aWhy (s : Nat → Int32) (x y z c : Int32) : Int32 := if aSeE s x y z c < 0 then aSeE s x y z c else aRea s x.toNatClampNeg y.toNatClampNeg z.toNatClampNeg c
theorem aBt.nat {s : Nat → Int32} {x y : Int32} (hm : mOk s) (h : aBt s x y) : ∃ p k, p < 4 ∧ x = nI p ∧ k < aMany s p ∧ y = nI k ∧ k < 20 := by
  obtain ⟨p, hp, rfl⟩ := h.1.nat
  have hc : (nI p).toNatClampNeg = p := nI_clamp (by omega)
  obtain ⟨-, h1, h2⟩ := h
  rw [hc, (hm.many hp).2] at h2
  have hl := (hm.many hp).1
  obtain ⟨k, hk, rfl⟩ := nI_of (x := y) (by rw [i32_lt, Int32.toInt_zero]; have := i32_le.mp h1; rw [Int32.toInt_zero] at this; omega)
  have h3 : k < aMany s p := by
    rcases Nat.eq_zero_or_pos (aMany s p) with h0 | h0
    · rw [h0] at h2
      have := i32_le.mp h2
      rw [nI_toInt hk, show (nI 0 - 1).toInt = -1 from by decide] at this
      omega
    · obtain ⟨j, hj⟩ : ∃ j, aMany s p = j + 1 := ⟨aMany s p - 1, by omega⟩
      rw [hj, nI_pred] at h2
      have := (nI_leI hk (by omega)).mp h2
      omega
  exact ⟨p, k, hp, rfl, h3, rfl, by omega⟩
def aChS (s : Nat → Int32) (p k b : Nat) (f : Int32) : Int32 :=
  if (¬ nI b = nI p ∧ aAsk s (s (wi p k + 0)) b ≤ 99 ∧ aRea s p k b (aAsk s (s (wi p k + 0)) b) = 0) ∧ (f = -5 ∨ aAsk s (s (wi p k + 0)) b ≤ f - f / 100 * 100) then 100 * nI b + aAsk s (s (wi p k + 0)) b else f
def aChe (s : Nat → Int32) (p k : Nat) : Int32 := aChS s p k 0 (aChS s p k 1 (aChS s p k 2 (aChS s p k 3 (-5))))
def aCheX (s : Nat → Int32) (x y : Int32) : Int32 := if aBt s x y then aChe s x.toNatClampNeg y.toNatClampNeg else -1
def aDaF (s : Nat → Int32) (p : Nat) : Nat → Int32
  | 0 => 0
  | d + 1 => aDaF s p d ||| (if aBites s p (aGo (aBeg s p) (nI (d + 1))) then 1 <<< (nI (d + 1) &&& 31) else 0)
def aDanX (s : Nat → Int32) (x : Int32) : Int32 := if aPl x then (if ro s x.toNatClampNeg 2 = 0 then aDaF s x.toNatClampNeg 6 else -4) else -1
set_option maxHeartbeats 4000000 in
set_option maxRecDepth 100000 in
theorem sp_player (l : Launch) (g : fw_G) {I : fw_I} {P : fw_P} {s : Nat → Int32} (hM : MSh P) (hm : mOk s) (x w : Int32) : Sp l g kX8_player T0 [.ref (g.1 + 688), .int x, .int w] (wr I 689 s) P T0 0 0 (qI (aPlrX s x w) (wr I 689 s) P) := by
  have a688 := at_688
  have a689 := at_689
  obtain ⟨p0, p1, p3, p5, p6, p10, p12, p13⟩ := id hM
  refine Sp.of_V (L := [some (.ref (g.1 + 688)), some (.int x), some (.int w)]) (by decide) (by simp [Value.category]) (Nat.le_of_ble_eq_true rfl) rfl ?_
  refine V_iload_n (i := 1) rfl rfl dX8_player_0 rfl ?_
  refine V_callS (n := 1) (sp_isPlayer l g _ P x) o_X8_isPlayer m_X8_39 ⟨by decide, by decide⟩ rfl rfl (by first | exact Nat.le_of_ble_eq_true rfl | simp [Value.category]) (Nat.le_refl _) (Nat.le_refl _) rfl dX8_player_1 rfl (kI ?_)
  refine V_if_ne (tgt := 9) dX8_player_4 (by decide) rfl (fun h_4 => ?_) (fun h_4 => ?_)
  · obtain ⟨p, hp, rfl⟩ := aPl.nat (bI_nz h_4)
    have hc : (nI p).toNatClampNeg = p := nI_clamp (by omega)
    refine V_iload_n (i := 2) rfl rfl dX8_player_9 rfl ?_
    rcases sw_cases 7 (by decide) w with h_10 | ⟨i_10, h_10, rfl⟩
    · refine V_tableOut (tgt := 127) dX8_player_10 h_10 (by decide) ?_
      refine V_bipush (v := (-2)) (by decide) dX8_player_127 rfl ?_
      exact V_ireturn rfl rfl dX8_player_129 rfl rfl rfl (qI.of (by unfold aPlrX; rw [if_pos (bI_nz h_4), hc]; unfold aPlr; rw [if_neg (sw_ne h_10 (by decide : 0 ≤ 7) (by decide)), if_neg (sw_ne h_10 (by decide : 1 ≤ 7) (by decide)), if_neg (sw_ne h_10 (by decide : 2 ≤ 7) (by decide)), if_neg (sw_ne h_10 (by decide : 3 ≤ 7) (by decide)), if_neg (sw_ne h_10 (by decide : 4 ≤ 7) (by decide)), if_neg (sw_ne h_10 (by decide : 5 ≤ 7) (by decide)), if_neg (sw_ne h_10 (by decide : 6 ≤ 7) (by decide)), if_neg (sw_ne h_10 (by decide : 7 ≤ 7) (by decide))]))
    · rcases (show i_10 = 0 ∨ i_10 = 1 ∨ i_10 = 2 ∨ i_10 = 3 ∨ i_10 = 4 ∨ i_10 = 5 ∨ i_10 = 6 ∨ i_10 = 7 by omega) with rfl | rfl | rfl | rfl | rfl | rfl | rfl | rfl
      · refine V_tableIn (x := nI 0) (tgt := 56) dX8_player_10 (by decide) (by decide) rfl (by decide) ?_
        refine V_aload_n (i := 0) rfl rfl dX8_player_56 rfl ?_
        refine V_iload_n (i := 1) rfl rfl dX8_player_57 rfl ?_
        refine V_iconst (v := 0) (by decide) dX8_player_58 rfl ?_
        refine V_call (n := 2) (sp_of l g hM hp (by decide : 0 < 6)) o_X8_of m_X8_43 ⟨by decide, by decide⟩ (by assumption) rfl rfl (by first | exact Nat.le_of_ble_eq_true rfl | simp [Value.category]) (Nat.le_refl _) (Nat.le_refl _) rfl dX8_player_59 rfl (kI ?_)
        exact V_ireturn rfl rfl dX8_player_62 rfl rfl rfl (qI.of (by unfold aPlrX; rw [if_pos (bI_nz h_4), hc]; rfl))
      · refine V_tableIn (x := nI 1) (tgt := 63) dX8_player_10 (by decide) (by decide) rfl (by decide) ?_
        refine V_aload_n (i := 0) rfl rfl dX8_player_63 rfl ?_
        refine V_iload_n (i := 1) rfl rfl dX8_player_64 rfl ?_
        refine V_iconst (v := 1) (by decide) dX8_player_65 rfl ?_
        refine V_call (n := 2) (sp_of l g hM hp (by decide : 1 < 6)) o_X8_of m_X8_43 ⟨by decide, by decide⟩ (by assumption) rfl rfl (by first | exact Nat.le_of_ble_eq_true rfl | simp [Value.category]) (Nat.le_refl _) (Nat.le_refl _) rfl dX8_player_66 rfl (kI ?_)
        refine V_sipush (v := 1000) (by decide) dX8_player_69 rfl ?_
        refine V_iadd dX8_player_72 rfl ?_
        exact V_ireturn rfl rfl dX8_player_73 rfl rfl rfl (qI.of (by unfold aPlrX; rw [if_pos (bI_nz h_4), hc]; rfl))
      · refine V_tableIn (x := nI 2) (tgt := 74) dX8_player_10 (by decide) (by decide) rfl (by decide) ?_
        refine V_aload_n (i := 0) rfl rfl dX8_player_74 rfl ?_
        refine V_iload_n (i := 1) rfl rfl dX8_player_75 rfl ?_
        refine V_iconst (v := 5) (by decide) dX8_player_76 rfl ?_
        refine V_call (n := 2) (sp_of l g hM hp (by decide : 5 < 6)) o_X8_of m_X8_43 ⟨by decide, by decide⟩ (by assumption) rfl rfl (by first | exact Nat.le_of_ble_eq_true rfl | simp [Value.category]) (Nat.le_refl _) (Nat.le_refl _) rfl dX8_player_77 rfl (kI ?_)
        exact V_ireturn rfl rfl dX8_player_80 rfl rfl rfl (qI.of (by unfold aPlrX; rw [if_pos (bI_nz h_4), hc]; rfl))
      · refine V_tableIn (x := nI 3) (tgt := 81) dX8_player_10 (by decide) (by decide) rfl (by decide) ?_
        refine V_aload_n (i := 0) rfl rfl dX8_player_81 rfl ?_
        refine V_iload_n (i := 1) rfl rfl dX8_player_82 rfl ?_
        refine V_call (n := 1) (sp_hurts l g hM hm hp) o_X8_hurts m_X8_61 ⟨by decide, by decide⟩ (by assumption) rfl rfl (by first | exact Nat.le_of_ble_eq_true rfl | simp [Value.category]) (Nat.le_refl _) (Nat.le_refl _) rfl dX8_player_83 rfl (kI ?_)
        exact V_ireturn rfl rfl dX8_player_86 rfl rfl rfl (qI.of (by unfold aPlrX; rw [if_pos (bI_nz h_4), hc]; rfl))
      · refine V_tableIn (x := nI 4) (tgt := 87) dX8_player_10 (by decide) (by decide) rfl (by decide) ?_
        refine V_aload_n (i := 0) rfl rfl dX8_player_87 rfl ?_
        refine V_iload_n (i := 1) rfl rfl dX8_player_88 rfl ?_
        refine V_call (n := 1) (sp_beginsAt l g hM hm hp) o_X8_beginsAt m_X8_79 ⟨by decide, by decide⟩ (by assumption) rfl rfl (by first | exact Nat.le_of_ble_eq_true rfl | simp [Value.category]) (Nat.le_refl _) (Nat.le_refl _) rfl dX8_player_89 rfl (kI ?_)
        exact V_ireturn rfl rfl dX8_player_92 rfl rfl rfl (qI.of (by unfold aPlrX; rw [if_pos (bI_nz h_4), hc]; rfl))
      · refine V_tableIn (x := nI 5) (tgt := 93) dX8_player_10 (by decide) (by decide) rfl (by decide) ?_
        refine V_aload_n (i := 0) rfl rfl dX8_player_93 rfl ?_
        refine V_iload_n (i := 1) rfl rfl dX8_player_94 rfl ?_
        refine V_call (n := 1) (sp_isIn l g hM hp) o_X8_isIn m_X8_96 ⟨by decide, by decide⟩ (by assumption) rfl rfl (by first | exact Nat.le_of_ble_eq_true rfl | simp [Value.category]) (Nat.le_refl _) (Nat.le_refl _) rfl dX8_player_95 rfl (kI ?_)
        refine V_if_eq (tgt := 106) dX8_player_98 (by decide) rfl (fun h_98 => ?_) (fun h_98 => ?_)
        · refine V_aload_n (i := 0) rfl rfl dX8_player_106 rfl ?_
          refine V_iload_n (i := 1) rfl rfl dX8_player_107 rfl ?_
          refine V_iconst (v := 2) (by decide) dX8_player_108 rfl ?_
          refine V_call (n := 2) (sp_of l g hM hp (by decide : 2 < 6)) o_X8_of m_X8_43 ⟨by decide, by decide⟩ (by assumption) rfl rfl (by first | exact Nat.le_of_ble_eq_true rfl | simp [Value.category]) (Nat.le_refl _) (Nat.le_refl _) rfl dX8_player_109 rfl (kI ?_)
          exact V_ireturn rfl rfl dX8_player_112 rfl rfl rfl (qI.of (by unfold aPlrX; rw [if_pos (bI_nz h_4), hc]; first | (show -5 = if ro s p 2 = 0 then -5 else ro s p 2; rw [if_pos (bI_nz h_98)]) | (show ro s p 2 = if ro s p 2 = 0 then -5 else ro s p 2; rw [if_neg (bI_z h_98)])))
        · refine V_bipush (v := (-5)) (by decide) dX8_player_101 rfl ?_
          refine V_goto (tgt := 112) dX8_player_103 (by decide) ?_
          exact V_ireturn rfl rfl dX8_player_112 rfl rfl rfl (qI.of (by unfold aPlrX; rw [if_pos (bI_nz h_4), hc]; first | (show -5 = if ro s p 2 = 0 then -5 else ro s p 2; rw [if_pos (bI_nz h_98)]) | (show ro s p 2 = if ro s p 2 = 0 then -5 else ro s p 2; rw [if_neg (bI_z h_98)])))
      · refine V_tableIn (x := nI 6) (tgt := 113) dX8_player_10 (by decide) (by decide) rfl (by decide) ?_
        refine V_aload_n (i := 0) rfl rfl dX8_player_113 rfl ?_
        refine V_iload_n (i := 1) rfl rfl dX8_player_114 rfl ?_
        refine V_iconst (v := 3) (by decide) dX8_player_115 rfl ?_
        refine V_call (n := 2) (sp_of l g hM hp (by decide : 3 < 6)) o_X8_of m_X8_43 ⟨by decide, by decide⟩ (by assumption) rfl rfl (by first | exact Nat.le_of_ble_eq_true rfl | simp [Value.category]) (Nat.le_refl _) (Nat.le_refl _) rfl dX8_player_116 rfl (kI ?_)
        exact V_ireturn rfl rfl dX8_player_119 rfl rfl rfl (qI.of (by unfold aPlrX; rw [if_pos (bI_nz h_4), hc]; rfl))
      · refine V_tableIn (x := nI 7) (tgt := 120) dX8_player_10 (by decide) (by decide) rfl (by decide) ?_
        refine V_aload_n (i := 0) rfl rfl dX8_player_120 rfl ?_
        refine V_iload_n (i := 1) rfl rfl dX8_player_121 rfl ?_
        refine V_iconst (v := 4) (by decide) dX8_player_122 rfl ?_
        refine V_call (n := 2) (sp_of l g hM hp (by decide : 4 < 6)) o_X8_of m_X8_43 ⟨by decide, by decide⟩ (by assumption) rfl rfl (by first | exact Nat.le_of_ble_eq_true rfl | simp [Value.category]) (Nat.le_refl _) (Nat.le_refl _) rfl dX8_player_123 rfl (kI ?_)
        exact V_ireturn rfl rfl dX8_player_126 rfl rfl rfl (qI.of (by unfold aPlrX; rw [if_pos (bI_nz h_4), hc]; rfl))
  · refine V_iconst (v := (-1)) (by decide) dX8_player_7 rfl ?_
    exact V_ireturn rfl rfl dX8_player_8 rfl rfl rfl (qI.of (by unfold aPlrX; rw [if_neg (bI_z h_4)]))

set_option maxHeartbeats 4000000 in
set_option maxRecDepth 100000 in
theorem sp_bite (l : Launch) (g : fw_G) {I : fw_I} {P : fw_P} {s : Nat → Int32} (hM : MSh P) (hm : mOk s) (x y w : Int32) : Sp l g kX8_bite T0 [.ref (g.1 + 688), .int x, .int y, .int w] (wr I 689 s) P T0 0 0 (qI (aBitX s x y w) (wr I 689 s) P) := by
  have a688 := at_688
  have a689 := at_689
  obtain ⟨p0, p1, p3, p5, p6, p10, p12, p13⟩ := id hM
  refine Sp.of_V (L := [some (.ref (g.1 + 688)), some (.int x), some (.int y), some (.int w)]) (by decide) (by simp [Value.category]) (Nat.le_of_ble_eq_true rfl) rfl ?_
  refine V_aload_n (i := 0) rfl rfl dX8_bite_0 rfl ?_
  refine V_iload_n (i := 1) rfl rfl dX8_bite_1 rfl ?_
  refine V_iload_n (i := 2) rfl rfl dX8_bite_2 rfl ?_
  refine V_call (n := 2) (sp_isBite l g hM x y) o_X8_isBite m_X8_103 ⟨by decide, by decide⟩ (by assumption) rfl rfl (by first | exact Nat.le_of_ble_eq_true rfl | simp [Value.category]) (Nat.le_refl _) (Nat.le_refl _) rfl dX8_bite_3 rfl (kI ?_)
  refine V_if_ne (tgt := 11) dX8_bite_6 (by decide) rfl (fun h_6 => ?_) (fun h_6 => ?_)
  · have hbt := bI_nz h_6
    obtain ⟨p, k, hp, rfl, hk, rfl, hk20⟩ := aBt.nat hm hbt
    have hc : (nI p).toNatClampNeg = p := nI_clamp (by omega)
    have hck : (nI k).toNatClampNeg = k := nI_clamp (by omega)
    refine V_iload_n (i := 3) rfl rfl dX8_bite_11 rfl ?_
    refine V_iconst (v := 0) (by decide) dX8_bite_12 rfl ?_
    refine V_iconst (v := 3) (by decide) dX8_bite_13 rfl ?_
    refine V_callS (n := 3) (sp_in l g _ P w 0 3) o_X8_in m_X8_35 ⟨by decide, by decide⟩ rfl rfl (by first | exact Nat.le_of_ble_eq_true rfl | simp [Value.category]) (Nat.le_refl _) (Nat.le_refl _) rfl dX8_bite_14 rfl (kI ?_)
    refine V_if_eq (tgt := 35) dX8_bite_17 (by decide) rfl (fun h_17 => ?_) (fun h_17 => ?_)
    · refine V_bipush (v := (-2)) (by decide) dX8_bite_35 rfl ?_
      exact V_ireturn rfl rfl dX8_bite_37 rfl rfl rfl (qI.of (by unfold aBitX; rw [if_pos hbt]; first | (rw [if_pos (bI_nz h_17), hc, hck, hcf]) | (rw [if_neg (bI_z h_17)])))
    · obtain ⟨f, hf, rfl⟩ := aPl.nat (bI_nz h_17)
      have hcf : (nI f).toNatClampNeg = f := nI_clamp (by omega)
      refine V_aload_n (i := 0) rfl rfl dX8_bite_20 rfl ?_
      refine V_getr (kf := 0) C8 (by decide) l_X8_7 (by assumption) rfl (by assumption) dX8_bite_21 rfl ?_
      refine V_iload_n (i := 1) rfl rfl dX8_bite_24 rfl ?_
      refine V_iload_n (i := 2) rfl rfl dX8_bite_25 rfl ?_
      refine V_callS (n := 2) (sp_whereIs l g _ P p k) o_X8_whereIs m_X8_58 ⟨by decide, by decide⟩ rfl rfl (by first | exact Nat.le_of_ble_eq_true rfl | simp [Value.category]) (Nat.le_refl _) (Nat.le_refl _) rfl dX8_bite_26 rfl (kI ?_)
      refine V_iload_n (i := 3) rfl rfl dX8_bite_29 rfl ?_
      refine V_iadd dX8_bite_30 rfl ?_
      refine V_iald9 (by assumption) (ix_wi hp hk20 hf) dX8_bite_31 rfl ?_
      refine V_goto (tgt := 37) dX8_bite_32 (by decide) ?_
      exact V_ireturn rfl rfl dX8_bite_37 rfl rfl rfl (qI.of (by unfold aBitX; rw [if_pos hbt]; first | (rw [if_pos (bI_nz h_17), hc, hck, hcf]) | (rw [if_neg (bI_z h_17)])))
  · refine V_iconst (v := (-1)) (by decide) dX8_bite_9 rfl ?_
    exact V_ireturn rfl rfl dX8_bite_10 rfl rfl rfl (qI.of (by unfold aBitX; rw [if_neg (bI_z h_6)]))

set_option maxHeartbeats 4000000 in
set_option maxRecDepth 100000 in
theorem sp_snakeOf (l : Launch) (g : fw_G) {I : fw_I} {P : fw_P} {s : Nat → Int32} (hM : MSh P) (x w : Int32) : Sp l g kX8_snakeOf T0 [.ref (g.1 + 688), .int x, .int w] (wr I 689 s) P T0 0 0 (qI (aSnkX s x w) (wr I 689 s) P) := by
  have a688 := at_688
  have a689 := at_689
  obtain ⟨p0, p1, p3, p5, p6, p10, p12, p13⟩ := id hM
  refine Sp.of_V (L := [some (.ref (g.1 + 688)), some (.int x), some (.int w)]) (by decide) (by simp [Value.category]) (Nat.le_of_ble_eq_true rfl) rfl ?_
  refine V_aload_n (i := 0) rfl rfl dX8_snakeOf_0 rfl ?_
  refine V_iload_n (i := 1) rfl rfl dX8_snakeOf_1 rfl ?_
  refine V_call (n := 1) (sp_isSnake l g hM x) o_X8_isSnake m_X8_113 ⟨by decide, by decide⟩ (by assumption) rfl rfl (by first | exact Nat.le_of_ble_eq_true rfl | simp [Value.category]) (Nat.le_refl _) (Nat.le_refl _) rfl dX8_snakeOf_2 rfl (kI ?_)
  refine V_if_ne (tgt := 10) dX8_snakeOf_5 (by decide) rfl (fun h_5 => ?_) (fun h_5 => ?_)
  · have hsk := bI_nz h_5
    obtain ⟨k, hk, rfl⟩ := nI_le9 hsk.1
    have hck : (nI k).toNatClampNeg = k := nI_clamp (by omega)
    refine V_iload_n (i := 2) rfl rfl dX8_snakeOf_10 rfl ?_
    refine V_iconst (v := 0) (by decide) dX8_snakeOf_11 rfl ?_
    refine V_iconst (v := 3) (by decide) dX8_snakeOf_12 rfl ?_
    refine V_callS (n := 3) (sp_in l g _ P w 0 3) o_X8_in m_X8_35 ⟨by decide, by decide⟩ rfl rfl (by first | exact Nat.le_of_ble_eq_true rfl | simp [Value.category]) (Nat.le_refl _) (Nat.le_refl _) rfl dX8_snakeOf_13 rfl (kI ?_)
    refine V_if_eq (tgt := 28) dX8_snakeOf_16 (by decide) rfl (fun h_16 => ?_) (fun h_16 => ?_)
    · refine V_bipush (v := (-2)) (by decide) dX8_snakeOf_28 rfl ?_
      exact V_ireturn rfl rfl dX8_snakeOf_30 rfl rfl rfl (qI.of (by unfold aSnkX; rw [if_pos hsk]; first | (rw [if_pos (bI_nz h_16), hck, hcf]) | (rw [if_neg (bI_z h_16)])))
    · obtain ⟨f, hf, rfl⟩ := aPl.nat (bI_nz h_16)
      have hcf : (nI f).toNatClampNeg = f := nI_clamp (by omega)
      refine V_aload_n (i := 0) rfl rfl dX8_snakeOf_19 rfl ?_
      refine V_iload_n (i := 1) rfl rfl dX8_snakeOf_20 rfl ?_
      refine V_iload_n (i := 2) rfl rfl dX8_snakeOf_21 rfl ?_
      refine V_call (n := 2) (sp_ofSnake l g hM hk hf) o_X8_ofSnake m_X8_47 ⟨by decide, by decide⟩ (by assumption) rfl rfl (by first | exact Nat.le_of_ble_eq_true rfl | simp [Value.category]) (Nat.le_refl _) (Nat.le_refl _) rfl dX8_snakeOf_22 rfl (kI ?_)
      refine V_goto (tgt := 30) dX8_snakeOf_25 (by decide) ?_
      exact V_ireturn rfl rfl dX8_snakeOf_30 rfl rfl rfl (qI.of (by unfold aSnkX; rw [if_pos hsk]; first | (rw [if_pos (bI_nz h_16), hck, hcf]) | (rw [if_neg (bI_z h_16)])))
  · refine V_iconst (v := (-1)) (by decide) dX8_snakeOf_8 rfl ?_
    exact V_ireturn rfl rfl dX8_snakeOf_9 rfl rfl rfl (qI.of (by unfold aSnkX; rw [if_neg (bI_z h_5)]))

set_option maxHeartbeats 4000000 in
set_option maxRecDepth 100000 in
theorem lp_tailsAt (l : Launch) (g : fw_G) {I : fw_I} {P : fw_P} {s : Nat → Int32} (hM : MSh P) (x : Int32) : ∀ (n j : Nat), j + n = 10 → V l g kX8_tailsAt T0 0 0 (qI (aTaF s x 10) (wr I 689 s) P) T0 (wr I 689 s) P 0 0 4 [some (.ref (g.1 + 688)), some (.int x), some (.int (aTaF s x j)), some (.int (nI j))] [] := by
  have a688 := at_688
  have a689 := at_689
  obtain ⟨p0, p1, p3, p5, p6, p10, p12, p13⟩ := id hM
  intro n
  induction n with
  | zero =>
    intro j hj
    obtain rfl : j = 10 := by omega
    refine V_iload_n (i := 3) rfl rfl dX8_tailsAt_4 rfl ?_
    refine V_bipush (v := 10) (by decide) dX8_tailsAt_5 rfl ?_
    refine V_icmp_ge (tgt := 42) dX8_tailsAt_7 (by decide) rfl (fun _ => ?_) (fun h => absurd (nI_le (a := 10) (b := 10) (Nat.le_refl _) (by decide)) h)
    refine V_iload_n (i := 2) rfl rfl dX8_tailsAt_42 rfl ?_
    exact V_ireturn rfl rfl dX8_tailsAt_43 rfl rfl rfl (qI.of rfl)
  | succ n ih =>
    intro j hj
    have hj10 : j < 10 := by omega
    have hcj : (nI j).toNatClampNeg = j := nI_clamp (by omega)
    refine V_iload_n (i := 3) rfl rfl dX8_tailsAt_4 rfl ?_
    refine V_bipush (v := 10) (by decide) dX8_tailsAt_5 rfl ?_
    refine V_icmp_ge (tgt := 42) dX8_tailsAt_7 (by decide) rfl (fun h => absurd h (nI_ge (b := 10) (by omega) (by decide))) (fun _ => ?_)
    refine V_iload_n (i := 2) rfl rfl dX8_tailsAt_10 rfl ?_
    refine V_aload_n (i := 0) rfl rfl dX8_tailsAt_11 rfl ?_
    refine V_iload_n (i := 3) rfl rfl dX8_tailsAt_12 rfl ?_
    refine V_call (n := 1) (sp_isSnake l g hM (nI j)) o_X8_isSnake m_X8_113 ⟨by decide, by decide⟩ (by assumption) rfl rfl (by first | exact Nat.le_of_ble_eq_true rfl | simp [Value.category]) (Nat.le_refl _) (Nat.le_refl _) rfl dX8_tailsAt_13 rfl (kI ?_)
    refine V_if_eq (tgt := 33) dX8_tailsAt_16 (by decide) rfl (fun h_16 => ?_) (fun h_16 => ?_)
    · refine V_iconst (v := 0) (by decide) dX8_tailsAt_33 rfl ?_
      refine V_iadd dX8_tailsAt_34 rfl ?_
      refine V_istore_n (i := 2) rfl (by decide) rfl dX8_tailsAt_35 rfl ?_
      refine V_iinc1 (i := 3) rfl (by decide) rfl dX8_tailsAt_36 rfl ?_
      refine V_goto (tgt := 4) dX8_tailsAt_39 (by decide) ?_
      have h9 := ih (j + 1) (by omega)
      rw [← nI_1, show aTaF s x (j + 1) = aTaF s x j + bI (0 < sn s j 0 ∧ sn s j 1 = x) from rfl] at h9
      first
        | (rw [bI_t (⟨hcj ▸ (bI_nz h_16).2, h_26⟩ : 0 < sn s j 0 ∧ sn s j 1 = x)] at h9; exact h9)
        | (rw [bI_f ((fun h => h_26 h.2) : ¬ (0 < sn s j 0 ∧ sn s j 1 = x))] at h9; exact h9)
        | (rw [bI_f ((fun h => bI_z h_16 ⟨⟨nI_pos' (by omega), nI_le (b := 9) (by omega) (by decide)⟩, hcj.symm ▸ h.1⟩) : ¬ (0 < sn s j 0 ∧ sn s j 1 = x))] at h9; exact h9)
    · refine V_aload_n (i := 0) rfl rfl dX8_tailsAt_19 rfl ?_
      refine V_iload_n (i := 3) rfl rfl dX8_tailsAt_20 rfl ?_
      refine V_iconst (v := 1) (by decide) dX8_tailsAt_21 rfl ?_
      refine V_call (n := 2) (sp_ofSnake l g hM hj10 (by decide : 1 < 4)) o_X8_ofSnake m_X8_47 ⟨by decide, by decide⟩ (by assumption) rfl rfl (by first | exact Nat.le_of_ble_eq_true rfl | simp [Value.category]) (Nat.le_refl _) (Nat.le_refl _) rfl dX8_tailsAt_22 rfl (kI ?_)
      refine V_iload_n (i := 1) rfl rfl dX8_tailsAt_25 rfl ?_
      refine V_icmp_ne (tgt := 33) dX8_tailsAt_26 (by decide) rfl (fun h_26 => ?_) (fun h_26 => ?_)
      · refine V_iconst (v := 0) (by decide) dX8_tailsAt_33 rfl ?_
        refine V_iadd dX8_tailsAt_34 rfl ?_
        refine V_istore_n (i := 2) rfl (by decide) rfl dX8_tailsAt_35 rfl ?_
        refine V_iinc1 (i := 3) rfl (by decide) rfl dX8_tailsAt_36 rfl ?_
        refine V_goto (tgt := 4) dX8_tailsAt_39 (by decide) ?_
        have h9 := ih (j + 1) (by omega)
        rw [← nI_1, show aTaF s x (j + 1) = aTaF s x j + bI (0 < sn s j 0 ∧ sn s j 1 = x) from rfl] at h9
        first
          | (rw [bI_t (⟨hcj ▸ (bI_nz h_16).2, h_26⟩ : 0 < sn s j 0 ∧ sn s j 1 = x)] at h9; exact h9)
          | (rw [bI_f ((fun h => h_26 h.2) : ¬ (0 < sn s j 0 ∧ sn s j 1 = x))] at h9; exact h9)
          | (rw [bI_f ((fun h => bI_z h_16 ⟨⟨nI_pos' (by omega), nI_le (b := 9) (by omega) (by decide)⟩, hcj.symm ▸ h.1⟩) : ¬ (0 < sn s j 0 ∧ sn s j 1 = x))] at h9; exact h9)
      · refine V_iconst (v := 1) (by decide) dX8_tailsAt_29 rfl ?_
        refine V_goto (tgt := 34) dX8_tailsAt_30 (by decide) ?_
        refine V_iadd dX8_tailsAt_34 rfl ?_
        refine V_istore_n (i := 2) rfl (by decide) rfl dX8_tailsAt_35 rfl ?_
        refine V_iinc1 (i := 3) rfl (by decide) rfl dX8_tailsAt_36 rfl ?_
        refine V_goto (tgt := 4) dX8_tailsAt_39 (by decide) ?_
        have h9 := ih (j + 1) (by omega)
        rw [← nI_1, show aTaF s x (j + 1) = aTaF s x j + bI (0 < sn s j 0 ∧ sn s j 1 = x) from rfl] at h9
        first
          | (rw [bI_t (⟨hcj ▸ (bI_nz h_16).2, h_26⟩ : 0 < sn s j 0 ∧ sn s j 1 = x)] at h9; exact h9)
          | (rw [bI_f ((fun h => h_26 h.2) : ¬ (0 < sn s j 0 ∧ sn s j 1 = x))] at h9; exact h9)
          | (rw [bI_f ((fun h => bI_z h_16 ⟨⟨nI_pos' (by omega), nI_le (b := 9) (by omega) (by decide)⟩, hcj.symm ▸ h.1⟩) : ¬ (0 < sn s j 0 ∧ sn s j 1 = x))] at h9; exact h9)

set_option maxHeartbeats 4000000 in
set_option maxRecDepth 100000 in
theorem sp_tailsAt (l : Launch) (g : fw_G) {I : fw_I} {P : fw_P} {s : Nat → Int32} (hM : MSh P) (x : Int32) : Sp l g kX8_tailsAt T0 [.ref (g.1 + 688), .int x] (wr I 689 s) P T0 0 0 (qI (aTaF s x 10) (wr I 689 s) P) := by
  refine Sp.of_V (L := [some (.ref (g.1 + 688)), some (.int x), none, none]) (by decide) (by simp [Value.category]) (Nat.le_of_ble_eq_true rfl) rfl ?_
  refine V_iconst (v := 0) (by decide) dX8_tailsAt_0 rfl ?_
  refine V_istore_n (i := 2) rfl (by decide) rfl dX8_tailsAt_1 rfl ?_
  refine V_iconst (v := 0) (by decide) dX8_tailsAt_2 rfl ?_
  refine V_istore_n (i := 3) rfl (by decide) rfl dX8_tailsAt_3 rfl ?_
  exact lp_tailsAt l g hM x 10 0 rfl

set_option maxHeartbeats 4000000 in
set_option maxRecDepth 100000 in
theorem sp_square (l : Launch) (g : fw_G) {I : fw_I} {P : fw_P} {s : Nat → Int32} (hM : MSh P) (q w : Int32) : Sp l g kX8_square T0 [.ref (g.1 + 688), .int q, .int w] (wr I 689 s) P T0 0 0 (qI (aSqX s q w) (wr I 689 s) P) := by
  have a688 := at_688
  have a689 := at_689
  obtain ⟨p0, p1, p3, p5, p6, p10, p12, p13⟩ := id hM
  refine Sp.of_V (L := [some (.ref (g.1 + 688)), some (.int q), some (.int w)]) (by decide) (by simp [Value.category]) (Nat.le_of_ble_eq_true rfl) rfl ?_
  refine V_iload_n (i := 1) rfl rfl dX8_square_0 rfl ?_
  refine V_iconst (v := 0) (by decide) dX8_square_1 rfl ?_
  refine V_bipush (v := 60) (by decide) dX8_square_2 rfl ?_
  refine V_callS (n := 3) (sp_in l g _ P q 0 60) o_X8_in m_X8_35 ⟨by decide, by decide⟩ rfl rfl (by first | exact Nat.le_of_ble_eq_true rfl | simp [Value.category]) (Nat.le_refl _) (Nat.le_refl _) rfl dX8_square_4 rfl (kI ?_)
  refine V_if_eq (tgt := 19) dX8_square_7 (by decide) rfl (fun h_7 => ?_) (fun h_7 => ?_)
  · refine V_bipush (v := (-2)) (by decide) dX8_square_19 rfl ?_
    exact V_ireturn rfl rfl dX8_square_21 rfl rfl rfl (qI.of (by unfold aSqX; first | rw [if_neg ((fun h => bI_z h_7 h.1) : ¬ ((0 ≤ q ∧ q ≤ 60) ∧ (0 ≤ w ∧ w ≤ 2)))] | rw [if_neg ((fun h => bI_z h_16 h.2) : ¬ ((0 ≤ q ∧ q ≤ 60) ∧ (0 ≤ w ∧ w ≤ 2)))]))
  · refine V_iload_n (i := 2) rfl rfl dX8_square_10 rfl ?_
    refine V_iconst (v := 0) (by decide) dX8_square_11 rfl ?_
    refine V_iconst (v := 2) (by decide) dX8_square_12 rfl ?_
    refine V_callS (n := 3) (sp_in l g _ P w 0 2) o_X8_in m_X8_35 ⟨by decide, by decide⟩ rfl rfl (by first | exact Nat.le_of_ble_eq_true rfl | simp [Value.category]) (Nat.le_refl _) (Nat.le_refl _) rfl dX8_square_13 rfl (kI ?_)
    refine V_if_ne (tgt := 22) dX8_square_16 (by decide) rfl (fun h_16 => ?_) (fun h_16 => ?_)
    · refine V_iload_n (i := 2) rfl rfl dX8_square_22 rfl ?_
      refine V_if_ne (tgt := 34) dX8_square_23 (by decide) rfl (fun h_23 => ?_) (fun h_23 => ?_)
      · refine V_iload_n (i := 2) rfl rfl dX8_square_34 rfl ?_
        refine V_iconst (v := 1) (by decide) dX8_square_35 rfl ?_
        refine V_icmp_ne (tgt := 47) dX8_square_36 (by decide) rfl (fun h_36 => ?_) (fun h_36 => ?_)
        · refine V_aload_n (i := 0) rfl rfl dX8_square_47 rfl ?_
          refine V_iload_n (i := 1) rfl rfl dX8_square_48 rfl ?_
          refine V_call (n := 1) (sp_tailsAt l g hM q) o_X8_tailsAt m_X8_177 ⟨by decide, by decide⟩ (by assumption) rfl rfl (by first | exact Nat.le_of_ble_eq_true rfl | simp [Value.category]) (Nat.le_refl _) (Nat.le_refl _) rfl dX8_square_49 rfl (kI ?_)
          exact V_ireturn rfl rfl dX8_square_52 rfl rfl rfl (qI.of (by unfold aSqX; rw [if_pos (⟨bI_nz h_7, bI_nz h_16⟩ : (0 ≤ q ∧ q ≤ 60) ∧ (0 ≤ w ∧ w ≤ 2))]; first | rw [if_pos h_23] | (rw [if_neg h_23]; first | rw [if_pos h_36] | rw [if_neg h_36])))
        · refine V_aload_n (i := 0) rfl rfl dX8_square_39 rfl ?_
          refine V_iload_n (i := 1) rfl rfl dX8_square_40 rfl ?_
          refine V_call (n := 1) (sp_snakeAt l g hM q) o_X8_snakeAt m_X8_65 ⟨by decide, by decide⟩ (by assumption) rfl rfl (by first | exact Nat.le_of_ble_eq_true rfl | simp [Value.category]) (Nat.le_refl _) (Nat.le_refl _) rfl dX8_square_41 rfl (kI ?_)
          refine V_goto (tgt := 52) dX8_square_44 (by decide) ?_
          exact V_ireturn rfl rfl dX8_square_52 rfl rfl rfl (qI.of (by unfold aSqX; rw [if_pos (⟨bI_nz h_7, bI_nz h_16⟩ : (0 ≤ q ∧ q ≤ 60) ∧ (0 ≤ w ∧ w ≤ 2))]; first | rw [if_pos h_23] | (rw [if_neg h_23]; first | rw [if_pos h_36] | rw [if_neg h_36])))
      · refine V_aload_n (i := 0) rfl rfl dX8_square_26 rfl ?_
        refine V_iload_n (i := 1) rfl rfl dX8_square_27 rfl ?_
        refine V_call (n := 1) (sp_piecesAt l g hM q) o_X8_piecesAt m_X8_68 ⟨by decide, by decide⟩ (by assumption) rfl rfl (by first | exact Nat.le_of_ble_eq_true rfl | simp [Value.category]) (Nat.le_refl _) (Nat.le_refl _) rfl dX8_square_28 rfl (kI ?_)
        refine V_goto (tgt := 52) dX8_square_31 (by decide) ?_
        exact V_ireturn rfl rfl dX8_square_52 rfl rfl rfl (qI.of (by unfold aSqX; rw [if_pos (⟨bI_nz h_7, bI_nz h_16⟩ : (0 ≤ q ∧ q ≤ 60) ∧ (0 ≤ w ∧ w ≤ 2))]; first | rw [if_pos h_23] | (rw [if_neg h_23]; first | rw [if_pos h_36] | rw [if_neg h_36])))
    · refine V_bipush (v := (-2)) (by decide) dX8_square_19 rfl ?_
      exact V_ireturn rfl rfl dX8_square_21 rfl rfl rfl (qI.of (by unfold aSqX; first | rw [if_neg ((fun h => bI_z h_7 h.1) : ¬ ((0 ≤ q ∧ q ≤ 60) ∧ (0 ≤ w ∧ w ≤ 2)))] | rw [if_neg ((fun h => bI_z h_16 h.2) : ¬ ((0 ≤ q ∧ q ≤ 60) ∧ (0 ≤ w ∧ w ≤ 2)))]))

set_option maxHeartbeats 4000000 in
set_option maxRecDepth 100000 in
theorem lp_sumOf (l : Launch) (g : fw_G) {I : fw_I} {P : fw_P} {s : Nat → Int32} (hM : MSh P) {f : Nat} (hf : f < 6) : ∀ (n j : Nat), j + n = 4 → V l g kX8_sumOf T0 0 0 (qI (aSuF s f 4) (wr I 689 s) P) T0 (wr I 689 s) P 0 0 4 [some (.ref (g.1 + 688)), some (.int (nI f)), some (.int (aSuF s f j)), some (.int (nI j))] [] := by
  have a688 := at_688
  have a689 := at_689
  obtain ⟨p0, p1, p3, p5, p6, p10, p12, p13⟩ := id hM
  intro n
  induction n with
  | zero =>
    intro j hj
    obtain rfl : j = 4 := by omega
    refine V_iload_n (i := 3) rfl rfl dX8_sumOf_4 rfl ?_
    refine V_iconst (v := 4) (by decide) dX8_sumOf_5 rfl ?_
    refine V_icmp_ge (tgt := 24) dX8_sumOf_6 (by decide) rfl (fun _ => ?_) (fun h => absurd (nI_le (a := 4) (b := 4) (Nat.le_refl _) (by decide)) h)
    refine V_iload_n (i := 2) rfl rfl dX8_sumOf_24 rfl ?_
    exact V_ireturn rfl rfl dX8_sumOf_25 rfl rfl rfl (qI.of rfl)
  | succ n ih =>
    intro j hj
    have hj10 : j < 4 := by omega
    refine V_iload_n (i := 3) rfl rfl dX8_sumOf_4 rfl ?_
    refine V_iconst (v := 4) (by decide) dX8_sumOf_5 rfl ?_
    refine V_icmp_ge (tgt := 24) dX8_sumOf_6 (by decide) rfl (fun h => absurd h (nI_ge (b := 4) (by omega) (by decide))) (fun _ => ?_)
    refine V_iload_n (i := 2) rfl rfl dX8_sumOf_9 rfl ?_
    refine V_aload_n (i := 0) rfl rfl dX8_sumOf_10 rfl ?_
    refine V_iload_n (i := 3) rfl rfl dX8_sumOf_11 rfl ?_
    refine V_iload_n (i := 1) rfl rfl dX8_sumOf_12 rfl ?_
    refine V_call (n := 2) (sp_of l g hM hj10 hf) o_X8_of m_X8_43 ⟨by decide, by decide⟩ (by assumption) rfl rfl (by first | exact Nat.le_of_ble_eq_true rfl | simp [Value.category]) (Nat.le_refl _) (Nat.le_refl _) rfl dX8_sumOf_13 rfl (kI ?_)
    refine V_iadd dX8_sumOf_16 rfl ?_
    refine V_istore_n (i := 2) rfl (by decide) rfl dX8_sumOf_17 rfl ?_
    refine V_iinc1 (i := 3) rfl (by decide) rfl dX8_sumOf_18 rfl ?_
    refine V_goto (tgt := 4) dX8_sumOf_21 (by decide) ?_
    have h9 := ih (j + 1) (by omega)
    rw [← nI_1] at h9
    exact h9

set_option maxHeartbeats 4000000 in
set_option maxRecDepth 100000 in
theorem sp_sumOf (l : Launch) (g : fw_G) {I : fw_I} {P : fw_P} {s : Nat → Int32} (hM : MSh P) {f : Nat} (hf : f < 6) : Sp l g kX8_sumOf T0 [.ref (g.1 + 688), .int (nI f)] (wr I 689 s) P T0 0 0 (qI (aSuF s f 4) (wr I 689 s) P) := by
  refine Sp.of_V (L := [some (.ref (g.1 + 688)), some (.int (nI f)), none, none]) (by decide) (by simp [Value.category]) (Nat.le_of_ble_eq_true rfl) rfl ?_
  refine V_iconst (v := 0) (by decide) dX8_sumOf_0 rfl ?_
  refine V_istore_n (i := 2) rfl (by decide) rfl dX8_sumOf_1 rfl ?_
  refine V_iconst (v := 0) (by decide) dX8_sumOf_2 rfl ?_
  refine V_istore_n (i := 3) rfl (by decide) rfl dX8_sumOf_3 rfl ?_
  exact lp_sumOf l g hM hf 4 0 rfl

set_option maxHeartbeats 4000000 in
set_option maxRecDepth 100000 in
theorem sp_count (l : Launch) (g : fw_G) {I : fw_I} {P : fw_P} {s : Nat → Int32} (hM : MSh P) (w : Int32) : Sp l g kX8_count T0 [.ref (g.1 + 688), .int w] (wr I 689 s) P T0 0 0 (qI (aCntX s (I 688 2) (I 688 7) w) (wr I 689 s) P) := by
  have a688 := at_688
  have a689 := at_689
  obtain ⟨p0, p1, p3, p5, p6, p10, p12, p13⟩ := id hM
  refine Sp.of_V (L := [some (.ref (g.1 + 688)), some (.int w)]) (by decide) (by simp [Value.category]) (Nat.le_of_ble_eq_true rfl) rfl ?_
  refine V_iload_n (i := 1) rfl rfl dX8_count_0 rfl ?_
  rcases sw_cases 12 (by decide) w with h_1 | ⟨i_1, h_1, rfl⟩
  · refine V_tableOut (tgt := 156) dX8_count_1 h_1 (by decide) ?_
    refine V_bipush (v := (-2)) (by decide) dX8_count_156 rfl ?_
    exact V_ireturn rfl rfl dX8_count_158 rfl rfl rfl (qI.of (by unfold aCntX; rw [if_neg (sw_ne h_1 (by decide : 0 ≤ 12) (by decide)), if_neg (sw_ne h_1 (by decide : 1 ≤ 12) (by decide)), if_neg (sw_ne h_1 (by decide : 2 ≤ 12) (by decide)), if_neg (sw_ne h_1 (by decide : 3 ≤ 12) (by decide)), if_neg (sw_ne h_1 (by decide : 4 ≤ 12) (by decide)), if_neg (sw_ne h_1 (by decide : 5 ≤ 12) (by decide)), if_neg (sw_ne h_1 (by decide : 6 ≤ 12) (by decide)), if_neg (sw_ne h_1 (by decide : 7 ≤ 12) (by decide)), if_neg (sw_ne h_1 (by decide : 8 ≤ 12) (by decide)), if_neg (sw_ne h_1 (by decide : 9 ≤ 12) (by decide)), if_neg (sw_ne h_1 (by decide : 10 ≤ 12) (by decide)), if_neg (sw_ne h_1 (by decide : 11 ≤ 12) (by decide)), if_neg (sw_ne h_1 (by decide : 12 ≤ 12) (by decide))]))
  · rcases (show i_1 = 0 ∨ i_1 = 1 ∨ i_1 = 2 ∨ i_1 = 3 ∨ i_1 = 4 ∨ i_1 = 5 ∨ i_1 = 6 ∨ i_1 = 7 ∨ i_1 = 8 ∨ i_1 = 9 ∨ i_1 = 10 ∨ i_1 = 11 ∨ i_1 = 12 by omega) with rfl | rfl | rfl | rfl | rfl | rfl | rfl | rfl | rfl | rfl | rfl | rfl | rfl
    · refine V_tableIn (x := nI 0) (tgt := 68) dX8_count_1 (by decide) (by decide) rfl (by decide) ?_
      refine V_aload_n (i := 0) rfl rfl dX8_count_68 rfl ?_
      refine V_getr (kf := 0) C8 (by decide) l_X8_7 (by assumption) rfl (by assumption) dX8_count_69 rfl ?_
      refine V_iconst (v := 0) (by decide) dX8_count_72 rfl ?_
      refine V_iald9 (by assumption) (fw_ix_nI (j := 0) (by decide) (by decide)) dX8_count_73 rfl ?_
      exact V_ireturn rfl rfl dX8_count_74 rfl rfl rfl (qI.of (by rfl))
    · refine V_tableIn (x := nI 1) (tgt := 75) dX8_count_1 (by decide) (by decide) rfl (by decide) ?_
      refine V_aload_n (i := 0) rfl rfl dX8_count_75 rfl ?_
      refine V_call (n := 0) (sp_isOver l g hM) o_X8_isOver m_X8_92 ⟨by decide, by decide⟩ (by assumption) rfl rfl (by first | exact Nat.le_of_ble_eq_true rfl | simp [Value.category]) (Nat.le_refl _) (Nat.le_refl _) rfl dX8_count_76 rfl (kI ?_)
      refine V_if_eq (tgt := 87) dX8_count_79 (by decide) rfl (fun h_79 => ?_) (fun h_79 => ?_)
      · refine V_aload_n (i := 0) rfl rfl dX8_count_87 rfl ?_
        refine V_getr (kf := 0) C8 (by decide) l_X8_7 (by assumption) rfl (by assumption) dX8_count_88 rfl ?_
        refine V_iconst (v := 1) (by decide) dX8_count_91 rfl ?_
        refine V_iald9 (by assumption) (fw_ix_nI (j := 1) (by decide) (by decide)) dX8_count_92 rfl ?_
        exact V_ireturn rfl rfl dX8_count_93 rfl rfl rfl (qI.of (by first | (show -5 = if s 4 = 4 then -5 else s 1; rw [if_pos (bI_nz h_79)]) | (show s 1 = if s 4 = 4 then -5 else s 1; rw [if_neg (bI_z h_79)])))
      · refine V_bipush (v := (-5)) (by decide) dX8_count_82 rfl ?_
        refine V_goto (tgt := 93) dX8_count_84 (by decide) ?_
        exact V_ireturn rfl rfl dX8_count_93 rfl rfl rfl (qI.of (by first | (show -5 = if s 4 = 4 then -5 else s 1; rw [if_pos (bI_nz h_79)]) | (show s 1 = if s 4 = 4 then -5 else s 1; rw [if_neg (bI_z h_79)])))
    · refine V_tableIn (x := nI 2) (tgt := 94) dX8_count_1 (by decide) (by decide) rfl (by decide) ?_
      refine V_iconst (v := 4) (by decide) dX8_count_94 rfl ?_
      refine V_aload_n (i := 0) rfl rfl dX8_count_95 rfl ?_
      refine V_getr (kf := 0) C8 (by decide) l_X8_7 (by assumption) rfl (by assumption) dX8_count_96 rfl ?_
      refine V_iconst (v := 4) (by decide) dX8_count_99 rfl ?_
      refine V_iald9 (by assumption) (fw_ix_nI (j := 4) (by decide) (by decide)) dX8_count_100 rfl ?_
      refine V_isub dX8_count_101 rfl ?_
      exact V_ireturn rfl rfl dX8_count_102 rfl rfl rfl (qI.of (by rfl))
    · refine V_tableIn (x := nI 3) (tgt := 103) dX8_count_1 (by decide) (by decide) rfl (by decide) ?_
      refine V_aload_n (i := 0) rfl rfl dX8_count_103 rfl ?_
      refine V_call (n := 0) (sp_snakes l g hM) o_X8_snakes m_X8_106 ⟨by decide, by decide⟩ (by assumption) rfl rfl (by first | exact Nat.le_of_ble_eq_true rfl | simp [Value.category]) (Nat.le_refl _) (Nat.le_refl _) rfl dX8_count_104 rfl (kI ?_)
      exact V_ireturn rfl rfl dX8_count_107 rfl rfl rfl (qI.of (by rfl))
    · refine V_tableIn (x := nI 4) (tgt := 108) dX8_count_1 (by decide) (by decide) rfl (by decide) ?_
      refine V_aload_n (i := 0) rfl rfl dX8_count_108 rfl ?_
      refine V_iconst (v := 5) (by decide) dX8_count_109 rfl ?_
      refine V_call (n := 1) (sp_sumOf l g hM (by decide : 5 < 6)) o_X8_sumOf m_X8_180 ⟨by decide, by decide⟩ (by assumption) rfl rfl (by first | exact Nat.le_of_ble_eq_true rfl | simp [Value.category]) (Nat.le_refl _) (Nat.le_refl _) rfl dX8_count_110 rfl (kI ?_)
      exact V_ireturn rfl rfl dX8_count_113 rfl rfl rfl (qI.of (by rfl))
    · refine V_tableIn (x := nI 5) (tgt := 114) dX8_count_1 (by decide) (by decide) rfl (by decide) ?_
      refine V_aload_n (i := 0) rfl rfl dX8_count_114 rfl ?_
      refine V_getr (kf := 0) C8 (by decide) l_X8_7 (by assumption) rfl (by assumption) dX8_count_115 rfl ?_
      refine V_iconst (v := 2) (by decide) dX8_count_118 rfl ?_
      refine V_iald9 (by assumption) (fw_ix_nI (j := 2) (by decide) (by decide)) dX8_count_119 rfl ?_
      exact V_ireturn rfl rfl dX8_count_120 rfl rfl rfl (qI.of (by rfl))
    · refine V_tableIn (x := nI 6) (tgt := 121) dX8_count_1 (by decide) (by decide) rfl (by decide) ?_
      refine V_aload_n (i := 0) rfl rfl dX8_count_121 rfl ?_
      refine V_getr (kf := 0) C8 (by decide) l_X8_7 (by assumption) rfl (by assumption) dX8_count_122 rfl ?_
      refine V_iconst (v := 3) (by decide) dX8_count_125 rfl ?_
      refine V_iald9 (by assumption) (fw_ix_nI (j := 3) (by decide) (by decide)) dX8_count_126 rfl ?_
      exact V_ireturn rfl rfl dX8_count_127 rfl rfl rfl (qI.of (by rfl))
    · refine V_tableIn (x := nI 7) (tgt := 128) dX8_count_1 (by decide) (by decide) rfl (by decide) ?_
      refine V_aload_n (i := 0) rfl rfl dX8_count_128 rfl ?_
      refine V_iconst (v := 1) (by decide) dX8_count_129 rfl ?_
      refine V_call (n := 1) (sp_sumOf l g hM (by decide : 1 < 6)) o_X8_sumOf m_X8_180 ⟨by decide, by decide⟩ (by assumption) rfl rfl (by first | exact Nat.le_of_ble_eq_true rfl | simp [Value.category]) (Nat.le_refl _) (Nat.le_refl _) rfl dX8_count_130 rfl (kI ?_)
      exact V_ireturn rfl rfl dX8_count_133 rfl rfl rfl (qI.of (by rfl))
    · refine V_tableIn (x := nI 8) (tgt := 134) dX8_count_1 (by decide) (by decide) rfl (by decide) ?_
      refine V_aload_n (i := 0) rfl rfl dX8_count_134 rfl ?_
      refine V_getr (kf := 0) C8 (by decide) l_X8_7 (by assumption) rfl (by assumption) dX8_count_135 rfl ?_
      refine V_iconst (v := 5) (by decide) dX8_count_138 rfl ?_
      refine V_iload_n (i := 1) rfl rfl dX8_count_139 rfl ?_
      refine V_iadd dX8_count_140 rfl ?_
      refine V_bipush (v := 8) (by decide) dX8_count_141 rfl ?_
      refine V_isub dX8_count_143 rfl ?_
      refine V_iald9 (by assumption) ⟨by decide, rfl, by decide⟩ dX8_count_144 rfl ?_
      exact V_ireturn rfl rfl dX8_count_145 rfl rfl rfl (qI.of (by rfl))
    · refine V_tableIn (x := nI 9) (tgt := 134) dX8_count_1 (by decide) (by decide) rfl (by decide) ?_
      refine V_aload_n (i := 0) rfl rfl dX8_count_134 rfl ?_
      refine V_getr (kf := 0) C8 (by decide) l_X8_7 (by assumption) rfl (by assumption) dX8_count_135 rfl ?_
      refine V_iconst (v := 5) (by decide) dX8_count_138 rfl ?_
      refine V_iload_n (i := 1) rfl rfl dX8_count_139 rfl ?_
      refine V_iadd dX8_count_140 rfl ?_
      refine V_bipush (v := 8) (by decide) dX8_count_141 rfl ?_
      refine V_isub dX8_count_143 rfl ?_
      refine V_iald9 (by assumption) ⟨by decide, rfl, by decide⟩ dX8_count_144 rfl ?_
      exact V_ireturn rfl rfl dX8_count_145 rfl rfl rfl (qI.of (by rfl))
    · refine V_tableIn (x := nI 10) (tgt := 134) dX8_count_1 (by decide) (by decide) rfl (by decide) ?_
      refine V_aload_n (i := 0) rfl rfl dX8_count_134 rfl ?_
      refine V_getr (kf := 0) C8 (by decide) l_X8_7 (by assumption) rfl (by assumption) dX8_count_135 rfl ?_
      refine V_iconst (v := 5) (by decide) dX8_count_138 rfl ?_
      refine V_iload_n (i := 1) rfl rfl dX8_count_139 rfl ?_
      refine V_iadd dX8_count_140 rfl ?_
      refine V_bipush (v := 8) (by decide) dX8_count_141 rfl ?_
      refine V_isub dX8_count_143 rfl ?_
      refine V_iald9 (by assumption) ⟨by decide, rfl, by decide⟩ dX8_count_144 rfl ?_
      exact V_ireturn rfl rfl dX8_count_145 rfl rfl rfl (qI.of (by rfl))
    · refine V_tableIn (x := nI 11) (tgt := 146) dX8_count_1 (by decide) (by decide) rfl (by decide) ?_
      refine V_aload_n (i := 0) rfl rfl dX8_count_146 rfl ?_
      refine V_get (kf := 2) C8 (by decide) l_X8_50 (by assumption) rfl dX8_count_147 rfl ?_
      exact V_ireturn rfl rfl dX8_count_150 rfl rfl rfl (qI.of (by rfl))
    · refine V_tableIn (x := nI 12) (tgt := 151) dX8_count_1 (by decide) (by decide) rfl (by decide) ?_
      refine V_aload_n (i := 0) rfl rfl dX8_count_151 rfl ?_
      refine V_get (kf := 7) C8 (by decide) l_X8_139 (by assumption) rfl dX8_count_152 rfl ?_
      exact V_ireturn rfl rfl dX8_count_155 rfl rfl rfl (qI.of (by rfl))

set_option maxHeartbeats 4000000 in
set_option maxRecDepth 100000 in
theorem sp_why (l : Launch) (g : fw_G) {I : fw_I} {P : fw_P} {s : Nat → Int32} (hM : MSh P) (hm : mOk s) (x y z c : Int32) : Sp l g kX8_why T0 [.ref (g.1 + 688), .int x, .int y, .int z, .int c] (wr I 689 s) P T0 0 0 (qI (aWhy s x y z c) (wr I 689 s) P) := by
  have a688 := at_688
  have a689 := at_689
  obtain ⟨p0, p1, p3, p5, p6, p10, p12, p13⟩ := id hM
  refine Sp.of_V (L := [some (.ref (g.1 + 688)), some (.int x), some (.int y), some (.int z), some (.int c), none]) (by decide) (by simp [Value.category]) (Nat.le_of_ble_eq_true rfl) rfl ?_
  refine V_aload_n (i := 0) rfl rfl dX8_why_0 rfl ?_
  refine V_iload_n (i := 1) rfl rfl dX8_why_1 rfl ?_
  refine V_iload_n (i := 2) rfl rfl dX8_why_2 rfl ?_
  refine V_iload_n (i := 3) rfl rfl dX8_why_3 rfl ?_
  refine V_iload (i := 4) rfl dX8_why_4 rfl ?_
  refine V_call (n := 4) (sp_sellError l g hM x y z c) o_X8_sellError m_X8_129 ⟨by decide, by decide⟩ (by assumption) rfl rfl (by first | exact Nat.le_of_ble_eq_true rfl | simp [Value.category]) (Nat.le_refl _) (Nat.le_refl _) rfl dX8_why_6 rfl (kI ?_)
  refine V_istore (i := 5) (by decide) rfl dX8_why_9 rfl ?_
  refine V_iload (i := 5) rfl dX8_why_11 rfl ?_
  refine V_if_ge (tgt := 21) dX8_why_13 (by decide) rfl (fun h_13 => ?_) (fun h_13 => ?_)
  · obtain ⟨he0, ⟨hbt, hpl⟩, hcc, hxz⟩ := (aSeE_cases s x y z c).elim (fun h => absurd h.1 (Int32.not_lt.mpr h_13)) id
    obtain ⟨p, k, hp, rfl, hk, rfl, hk20⟩ := aBt.nat hm hbt
    obtain ⟨b, hb, rfl⟩ := hpl.nat
    have hc : (nI p).toNatClampNeg = p := nI_clamp (by omega)
    have hck : (nI k).toNatClampNeg = k := nI_clamp (by omega)
    have hcb : (nI b).toNatClampNeg = b := nI_clamp (by omega)
    refine V_aload_n (i := 0) rfl rfl dX8_why_21 rfl ?_
    refine V_iload_n (i := 1) rfl rfl dX8_why_22 rfl ?_
    refine V_iload_n (i := 2) rfl rfl dX8_why_23 rfl ?_
    refine V_iload_n (i := 3) rfl rfl dX8_why_24 rfl ?_
    refine V_iload (i := 4) rfl dX8_why_25 rfl ?_
    refine V_call (n := 4) (sp_reason l g hM hp hk20 hb c) o_X8_reason m_X8_133 ⟨by decide, by decide⟩ (by assumption) rfl rfl (by first | exact Nat.le_of_ble_eq_true rfl | simp [Value.category]) (Nat.le_refl _) (Nat.le_refl _) rfl dX8_why_27 rfl (kI ?_)
    exact V_ireturn rfl rfl dX8_why_30 rfl rfl rfl (qI.of (by unfold aWhy; first | rw [if_pos (Int32.not_le.mp h_13)] | rw [if_neg (Int32.not_lt.mpr h_13), hc, hck, hcb]))
  · refine V_iload (i := 5) rfl dX8_why_16 rfl ?_
    refine V_goto (tgt := 30) dX8_why_18 (by decide) ?_
    exact V_ireturn rfl rfl dX8_why_30 rfl rfl rfl (qI.of (by unfold aWhy; first | rw [if_pos (Int32.not_le.mp h_13)] | rw [if_neg (Int32.not_lt.mpr h_13), hc, hck, hcb]))

set_option maxHeartbeats 4000000 in
set_option maxRecDepth 100000 in
theorem lp_che (l : Launch) (g : fw_G) {I : fw_I} {P : fw_P} {s : Nat → Int32} (hM : MSh P) {p k b : Nat} (hp : p < 4) (hk : k < 20) (hb : b < 4) (f : Int32) (kk : V l g kX8_cheapest T0 0 0 (qI (aChe s p k) (wr I 689 s) P) T0 (wr I 689 s) P 0 0 17 [some (.ref (g.1 + 688)), some (.int (nI p)), some (.int (nI k)), some (.int (aChS s p k b f)), some (.int (nI b + -1)), none, none] []) : V l g kX8_cheapest T0 0 0 (qI (aChe s p k) (wr I 689 s) P) T0 (wr I 689 s) P 0 0 17 [some (.ref (g.1 + 688)), some (.int (nI p)), some (.int (nI k)), some (.int (f)), some (.int (nI b)), none, none] [] := by
  have a688 := at_688
  have a689 := at_689
  obtain ⟨p0, p1, p3, p5, p6, p10, p12, p13⟩ := id hM
  refine V_iload (i := 4) rfl dX8_cheapest_17 rfl ?_
  refine V_if_lt (tgt := 114) dX8_cheapest_19 (by decide) rfl (fun h => absurd h (nI_pos (by omega))) (fun _ => ?_)
  refine V_aload_n (i := 0) rfl rfl dX8_cheapest_22 rfl ?_
  refine V_aload_n (i := 0) rfl rfl dX8_cheapest_23 rfl ?_
  refine V_getr (kf := 0) C8 (by decide) l_X8_7 (by assumption) rfl (by assumption) dX8_cheapest_24 rfl ?_
  refine V_iload_n (i := 1) rfl rfl dX8_cheapest_27 rfl ?_
  refine V_iload_n (i := 2) rfl rfl dX8_cheapest_28 rfl ?_
  refine V_callS (n := 2) (sp_whereIs l g _ P p k) o_X8_whereIs m_X8_58 ⟨by decide, by decide⟩ rfl rfl (by first | exact Nat.le_of_ble_eq_true rfl | simp [Value.category]) (Nat.le_refl _) (Nat.le_refl _) rfl dX8_cheapest_29 rfl (kI ?_)
  refine V_iconst (v := 0) (by decide) dX8_cheapest_32 rfl ?_
  refine V_iadd dX8_cheapest_33 rfl ?_
  refine V_iald9 (by assumption) (ix_wi hp hk (by decide : 0 < 4)) dX8_cheapest_34 rfl ?_
  refine V_iload (i := 4) rfl dX8_cheapest_35 rfl ?_
  refine V_call (n := 2) (sp_asks l g hM (s (wi p k + 0)) hb) o_X8_asks m_X8_100 ⟨by decide, by decide⟩ (by assumption) rfl rfl (by first | exact Nat.le_of_ble_eq_true rfl | simp [Value.category]) (Nat.le_refl _) (Nat.le_refl _) rfl dX8_cheapest_37 rfl (kI ?_)
  refine V_istore (i := 5) (by decide) rfl dX8_cheapest_40 rfl ?_
  refine V_iload (i := 4) rfl dX8_cheapest_42 rfl ?_
  refine V_iload_n (i := 1) rfl rfl dX8_cheapest_44 rfl ?_
  refine V_icmp_eq (tgt := 72) dX8_cheapest_45 (by decide) rfl (fun h_45 => ?_) (fun h_45 => ?_)
  · refine V_iconst (v := 0) (by decide) dX8_cheapest_72 rfl ?_
    refine V_istore (i := 6) (by decide) rfl dX8_cheapest_73 rfl ?_
    refine V_iload (i := 6) rfl dX8_cheapest_75 rfl ?_
    refine V_if_eq (tgt := 106) dX8_cheapest_77 (by decide) rfl (fun h_77 => ?_) (fun h_77 => ?_)
    · refine V_iload_n (i := 3) rfl rfl dX8_cheapest_106 rfl ?_
      refine V_istore_n (i := 3) rfl (by decide) rfl dX8_cheapest_107 rfl ?_
      refine V_iincm (i := 4) rfl (by decide) rfl dX8_cheapest_108 rfl ?_
      refine V_goto (tgt := 17) dX8_cheapest_111 (by decide) ?_
      refine V_forget 5 rfl ?_
      refine V_forget 6 rfl ?_
      have h9 := kk
      unfold aChS at h9
      first
        | exact absurd rfl h_77
        | exact absurd h_77 (by decide)
        | (rw [if_pos (⟨⟨h_45, Int32.not_lt.mp h_52, h_65⟩, Or.inl h_83⟩ : (¬ nI b = nI p ∧ aAsk s (s (wi p k + 0)) b ≤ 99 ∧ aRea s p k b (aAsk s (s (wi p k + 0)) b) = 0) ∧ (f = -5 ∨ aAsk s (s (wi p k + 0)) b ≤ f - f / 100 * 100))] at h9; exact h9)
        | (rw [if_pos (⟨⟨h_45, Int32.not_lt.mp h_52, h_65⟩, Or.inr (Int32.not_lt.mp h_92)⟩ : (¬ nI b = nI p ∧ aAsk s (s (wi p k + 0)) b ≤ 99 ∧ aRea s p k b (aAsk s (s (wi p k + 0)) b) = 0) ∧ (f = -5 ∨ aAsk s (s (wi p k + 0)) b ≤ f - f / 100 * 100))] at h9; exact h9)
        | (rw [if_neg ((fun h => h.2.elim h_83 (fun h2 => Int32.not_lt.mpr h2 h_92)) : ¬ ((¬ nI b = nI p ∧ aAsk s (s (wi p k + 0)) b ≤ 99 ∧ aRea s p k b (aAsk s (s (wi p k + 0)) b) = 0) ∧ (f = -5 ∨ aAsk s (s (wi p k + 0)) b ≤ f - f / 100 * 100)))] at h9; exact h9)
        | (rw [if_neg ((fun h => h_65 h.1.2.2) : ¬ ((¬ nI b = nI p ∧ aAsk s (s (wi p k + 0)) b ≤ 99 ∧ aRea s p k b (aAsk s (s (wi p k + 0)) b) = 0) ∧ (f = -5 ∨ aAsk s (s (wi p k + 0)) b ≤ f - f / 100 * 100)))] at h9; exact h9)
        | (rw [if_neg ((fun h => Int32.not_lt.mpr h.1.2.1 h_52) : ¬ ((¬ nI b = nI p ∧ aAsk s (s (wi p k + 0)) b ≤ 99 ∧ aRea s p k b (aAsk s (s (wi p k + 0)) b) = 0) ∧ (f = -5 ∨ aAsk s (s (wi p k + 0)) b ≤ f - f / 100 * 100)))] at h9; exact h9)
        | (rw [if_neg ((fun h => h.1.1 h_45) : ¬ ((¬ nI b = nI p ∧ aAsk s (s (wi p k + 0)) b ≤ 99 ∧ aRea s p k b (aAsk s (s (wi p k + 0)) b) = 0) ∧ (f = -5 ∨ aAsk s (s (wi p k + 0)) b ≤ f - f / 100 * 100)))] at h9; exact h9)
    · refine V_iload_n (i := 3) rfl rfl dX8_cheapest_80 rfl ?_
      refine V_bipush (v := (-5)) (by decide) dX8_cheapest_81 rfl ?_
      refine V_icmp_eq (tgt := 95) dX8_cheapest_83 (by decide) rfl (fun h_83 => ?_) (fun h_83 => ?_)
      · refine V_bipush (v := 100) (by decide) dX8_cheapest_95 rfl ?_
        refine V_iload (i := 4) rfl dX8_cheapest_97 rfl ?_
        refine V_imul dX8_cheapest_99 rfl ?_
        refine V_iload (i := 5) rfl dX8_cheapest_100 rfl ?_
        refine V_iadd dX8_cheapest_102 rfl ?_
        refine V_goto (tgt := 107) dX8_cheapest_103 (by decide) ?_
        refine V_istore_n (i := 3) rfl (by decide) rfl dX8_cheapest_107 rfl ?_
        refine V_iincm (i := 4) rfl (by decide) rfl dX8_cheapest_108 rfl ?_
        refine V_goto (tgt := 17) dX8_cheapest_111 (by decide) ?_
        refine V_forget 5 rfl ?_
        refine V_forget 6 rfl ?_
        have h9 := kk
        unfold aChS at h9
        first
          | exact absurd rfl h_77
          | exact absurd h_77 (by decide)
          | (rw [if_pos (⟨⟨h_45, Int32.not_lt.mp h_52, h_65⟩, Or.inl h_83⟩ : (¬ nI b = nI p ∧ aAsk s (s (wi p k + 0)) b ≤ 99 ∧ aRea s p k b (aAsk s (s (wi p k + 0)) b) = 0) ∧ (f = -5 ∨ aAsk s (s (wi p k + 0)) b ≤ f - f / 100 * 100))] at h9; exact h9)
          | (rw [if_pos (⟨⟨h_45, Int32.not_lt.mp h_52, h_65⟩, Or.inr (Int32.not_lt.mp h_92)⟩ : (¬ nI b = nI p ∧ aAsk s (s (wi p k + 0)) b ≤ 99 ∧ aRea s p k b (aAsk s (s (wi p k + 0)) b) = 0) ∧ (f = -5 ∨ aAsk s (s (wi p k + 0)) b ≤ f - f / 100 * 100))] at h9; exact h9)
          | (rw [if_neg ((fun h => h.2.elim h_83 (fun h2 => Int32.not_lt.mpr h2 h_92)) : ¬ ((¬ nI b = nI p ∧ aAsk s (s (wi p k + 0)) b ≤ 99 ∧ aRea s p k b (aAsk s (s (wi p k + 0)) b) = 0) ∧ (f = -5 ∨ aAsk s (s (wi p k + 0)) b ≤ f - f / 100 * 100)))] at h9; exact h9)
          | (rw [if_neg ((fun h => h_65 h.1.2.2) : ¬ ((¬ nI b = nI p ∧ aAsk s (s (wi p k + 0)) b ≤ 99 ∧ aRea s p k b (aAsk s (s (wi p k + 0)) b) = 0) ∧ (f = -5 ∨ aAsk s (s (wi p k + 0)) b ≤ f - f / 100 * 100)))] at h9; exact h9)
          | (rw [if_neg ((fun h => Int32.not_lt.mpr h.1.2.1 h_52) : ¬ ((¬ nI b = nI p ∧ aAsk s (s (wi p k + 0)) b ≤ 99 ∧ aRea s p k b (aAsk s (s (wi p k + 0)) b) = 0) ∧ (f = -5 ∨ aAsk s (s (wi p k + 0)) b ≤ f - f / 100 * 100)))] at h9; exact h9)
          | (rw [if_neg ((fun h => h.1.1 h_45) : ¬ ((¬ nI b = nI p ∧ aAsk s (s (wi p k + 0)) b ≤ 99 ∧ aRea s p k b (aAsk s (s (wi p k + 0)) b) = 0) ∧ (f = -5 ∨ aAsk s (s (wi p k + 0)) b ≤ f - f / 100 * 100)))] at h9; exact h9)
      · refine V_iload (i := 5) rfl dX8_cheapest_86 rfl ?_
        refine V_iload_n (i := 3) rfl rfl dX8_cheapest_88 rfl ?_
        refine V_bipush (v := 100) (by decide) dX8_cheapest_89 rfl ?_
        refine V_irem (by decide) dX8_cheapest_91 rfl ?_
        refine V_icmp_gt (tgt := 106) dX8_cheapest_92 (by decide) rfl (fun h_92 => ?_) (fun h_92 => ?_)
        · refine V_iload_n (i := 3) rfl rfl dX8_cheapest_106 rfl ?_
          refine V_istore_n (i := 3) rfl (by decide) rfl dX8_cheapest_107 rfl ?_
          refine V_iincm (i := 4) rfl (by decide) rfl dX8_cheapest_108 rfl ?_
          refine V_goto (tgt := 17) dX8_cheapest_111 (by decide) ?_
          refine V_forget 5 rfl ?_
          refine V_forget 6 rfl ?_
          have h9 := kk
          unfold aChS at h9
          first
            | exact absurd rfl h_77
            | exact absurd h_77 (by decide)
            | (rw [if_pos (⟨⟨h_45, Int32.not_lt.mp h_52, h_65⟩, Or.inl h_83⟩ : (¬ nI b = nI p ∧ aAsk s (s (wi p k + 0)) b ≤ 99 ∧ aRea s p k b (aAsk s (s (wi p k + 0)) b) = 0) ∧ (f = -5 ∨ aAsk s (s (wi p k + 0)) b ≤ f - f / 100 * 100))] at h9; exact h9)
            | (rw [if_pos (⟨⟨h_45, Int32.not_lt.mp h_52, h_65⟩, Or.inr (Int32.not_lt.mp h_92)⟩ : (¬ nI b = nI p ∧ aAsk s (s (wi p k + 0)) b ≤ 99 ∧ aRea s p k b (aAsk s (s (wi p k + 0)) b) = 0) ∧ (f = -5 ∨ aAsk s (s (wi p k + 0)) b ≤ f - f / 100 * 100))] at h9; exact h9)
            | (rw [if_neg ((fun h => h.2.elim h_83 (fun h2 => Int32.not_lt.mpr h2 h_92)) : ¬ ((¬ nI b = nI p ∧ aAsk s (s (wi p k + 0)) b ≤ 99 ∧ aRea s p k b (aAsk s (s (wi p k + 0)) b) = 0) ∧ (f = -5 ∨ aAsk s (s (wi p k + 0)) b ≤ f - f / 100 * 100)))] at h9; exact h9)
            | (rw [if_neg ((fun h => h_65 h.1.2.2) : ¬ ((¬ nI b = nI p ∧ aAsk s (s (wi p k + 0)) b ≤ 99 ∧ aRea s p k b (aAsk s (s (wi p k + 0)) b) = 0) ∧ (f = -5 ∨ aAsk s (s (wi p k + 0)) b ≤ f - f / 100 * 100)))] at h9; exact h9)
            | (rw [if_neg ((fun h => Int32.not_lt.mpr h.1.2.1 h_52) : ¬ ((¬ nI b = nI p ∧ aAsk s (s (wi p k + 0)) b ≤ 99 ∧ aRea s p k b (aAsk s (s (wi p k + 0)) b) = 0) ∧ (f = -5 ∨ aAsk s (s (wi p k + 0)) b ≤ f - f / 100 * 100)))] at h9; exact h9)
            | (rw [if_neg ((fun h => h.1.1 h_45) : ¬ ((¬ nI b = nI p ∧ aAsk s (s (wi p k + 0)) b ≤ 99 ∧ aRea s p k b (aAsk s (s (wi p k + 0)) b) = 0) ∧ (f = -5 ∨ aAsk s (s (wi p k + 0)) b ≤ f - f / 100 * 100)))] at h9; exact h9)
        · refine V_bipush (v := 100) (by decide) dX8_cheapest_95 rfl ?_
          refine V_iload (i := 4) rfl dX8_cheapest_97 rfl ?_
          refine V_imul dX8_cheapest_99 rfl ?_
          refine V_iload (i := 5) rfl dX8_cheapest_100 rfl ?_
          refine V_iadd dX8_cheapest_102 rfl ?_
          refine V_goto (tgt := 107) dX8_cheapest_103 (by decide) ?_
          refine V_istore_n (i := 3) rfl (by decide) rfl dX8_cheapest_107 rfl ?_
          refine V_iincm (i := 4) rfl (by decide) rfl dX8_cheapest_108 rfl ?_
          refine V_goto (tgt := 17) dX8_cheapest_111 (by decide) ?_
          refine V_forget 5 rfl ?_
          refine V_forget 6 rfl ?_
          have h9 := kk
          unfold aChS at h9
          first
            | exact absurd rfl h_77
            | exact absurd h_77 (by decide)
            | (rw [if_pos (⟨⟨h_45, Int32.not_lt.mp h_52, h_65⟩, Or.inl h_83⟩ : (¬ nI b = nI p ∧ aAsk s (s (wi p k + 0)) b ≤ 99 ∧ aRea s p k b (aAsk s (s (wi p k + 0)) b) = 0) ∧ (f = -5 ∨ aAsk s (s (wi p k + 0)) b ≤ f - f / 100 * 100))] at h9; exact h9)
            | (rw [if_pos (⟨⟨h_45, Int32.not_lt.mp h_52, h_65⟩, Or.inr (Int32.not_lt.mp h_92)⟩ : (¬ nI b = nI p ∧ aAsk s (s (wi p k + 0)) b ≤ 99 ∧ aRea s p k b (aAsk s (s (wi p k + 0)) b) = 0) ∧ (f = -5 ∨ aAsk s (s (wi p k + 0)) b ≤ f - f / 100 * 100))] at h9; exact h9)
            | (rw [if_neg ((fun h => h.2.elim h_83 (fun h2 => Int32.not_lt.mpr h2 h_92)) : ¬ ((¬ nI b = nI p ∧ aAsk s (s (wi p k + 0)) b ≤ 99 ∧ aRea s p k b (aAsk s (s (wi p k + 0)) b) = 0) ∧ (f = -5 ∨ aAsk s (s (wi p k + 0)) b ≤ f - f / 100 * 100)))] at h9; exact h9)
            | (rw [if_neg ((fun h => h_65 h.1.2.2) : ¬ ((¬ nI b = nI p ∧ aAsk s (s (wi p k + 0)) b ≤ 99 ∧ aRea s p k b (aAsk s (s (wi p k + 0)) b) = 0) ∧ (f = -5 ∨ aAsk s (s (wi p k + 0)) b ≤ f - f / 100 * 100)))] at h9; exact h9)
            | (rw [if_neg ((fun h => Int32.not_lt.mpr h.1.2.1 h_52) : ¬ ((¬ nI b = nI p ∧ aAsk s (s (wi p k + 0)) b ≤ 99 ∧ aRea s p k b (aAsk s (s (wi p k + 0)) b) = 0) ∧ (f = -5 ∨ aAsk s (s (wi p k + 0)) b ≤ f - f / 100 * 100)))] at h9; exact h9)
            | (rw [if_neg ((fun h => h.1.1 h_45) : ¬ ((¬ nI b = nI p ∧ aAsk s (s (wi p k + 0)) b ≤ 99 ∧ aRea s p k b (aAsk s (s (wi p k + 0)) b) = 0) ∧ (f = -5 ∨ aAsk s (s (wi p k + 0)) b ≤ f - f / 100 * 100)))] at h9; exact h9)
  · refine V_iload (i := 5) rfl dX8_cheapest_48 rfl ?_
    refine V_bipush (v := 99) (by decide) dX8_cheapest_50 rfl ?_
    refine V_icmp_gt (tgt := 72) dX8_cheapest_52 (by decide) rfl (fun h_52 => ?_) (fun h_52 => ?_)
    · refine V_iconst (v := 0) (by decide) dX8_cheapest_72 rfl ?_
      refine V_istore (i := 6) (by decide) rfl dX8_cheapest_73 rfl ?_
      refine V_iload (i := 6) rfl dX8_cheapest_75 rfl ?_
      refine V_if_eq (tgt := 106) dX8_cheapest_77 (by decide) rfl (fun h_77 => ?_) (fun h_77 => ?_)
      · refine V_iload_n (i := 3) rfl rfl dX8_cheapest_106 rfl ?_
        refine V_istore_n (i := 3) rfl (by decide) rfl dX8_cheapest_107 rfl ?_
        refine V_iincm (i := 4) rfl (by decide) rfl dX8_cheapest_108 rfl ?_
        refine V_goto (tgt := 17) dX8_cheapest_111 (by decide) ?_
        refine V_forget 5 rfl ?_
        refine V_forget 6 rfl ?_
        have h9 := kk
        unfold aChS at h9
        first
          | exact absurd rfl h_77
          | exact absurd h_77 (by decide)
          | (rw [if_pos (⟨⟨h_45, Int32.not_lt.mp h_52, h_65⟩, Or.inl h_83⟩ : (¬ nI b = nI p ∧ aAsk s (s (wi p k + 0)) b ≤ 99 ∧ aRea s p k b (aAsk s (s (wi p k + 0)) b) = 0) ∧ (f = -5 ∨ aAsk s (s (wi p k + 0)) b ≤ f - f / 100 * 100))] at h9; exact h9)
          | (rw [if_pos (⟨⟨h_45, Int32.not_lt.mp h_52, h_65⟩, Or.inr (Int32.not_lt.mp h_92)⟩ : (¬ nI b = nI p ∧ aAsk s (s (wi p k + 0)) b ≤ 99 ∧ aRea s p k b (aAsk s (s (wi p k + 0)) b) = 0) ∧ (f = -5 ∨ aAsk s (s (wi p k + 0)) b ≤ f - f / 100 * 100))] at h9; exact h9)
          | (rw [if_neg ((fun h => h.2.elim h_83 (fun h2 => Int32.not_lt.mpr h2 h_92)) : ¬ ((¬ nI b = nI p ∧ aAsk s (s (wi p k + 0)) b ≤ 99 ∧ aRea s p k b (aAsk s (s (wi p k + 0)) b) = 0) ∧ (f = -5 ∨ aAsk s (s (wi p k + 0)) b ≤ f - f / 100 * 100)))] at h9; exact h9)
          | (rw [if_neg ((fun h => h_65 h.1.2.2) : ¬ ((¬ nI b = nI p ∧ aAsk s (s (wi p k + 0)) b ≤ 99 ∧ aRea s p k b (aAsk s (s (wi p k + 0)) b) = 0) ∧ (f = -5 ∨ aAsk s (s (wi p k + 0)) b ≤ f - f / 100 * 100)))] at h9; exact h9)
          | (rw [if_neg ((fun h => Int32.not_lt.mpr h.1.2.1 h_52) : ¬ ((¬ nI b = nI p ∧ aAsk s (s (wi p k + 0)) b ≤ 99 ∧ aRea s p k b (aAsk s (s (wi p k + 0)) b) = 0) ∧ (f = -5 ∨ aAsk s (s (wi p k + 0)) b ≤ f - f / 100 * 100)))] at h9; exact h9)
          | (rw [if_neg ((fun h => h.1.1 h_45) : ¬ ((¬ nI b = nI p ∧ aAsk s (s (wi p k + 0)) b ≤ 99 ∧ aRea s p k b (aAsk s (s (wi p k + 0)) b) = 0) ∧ (f = -5 ∨ aAsk s (s (wi p k + 0)) b ≤ f - f / 100 * 100)))] at h9; exact h9)
      · refine V_iload_n (i := 3) rfl rfl dX8_cheapest_80 rfl ?_
        refine V_bipush (v := (-5)) (by decide) dX8_cheapest_81 rfl ?_
        refine V_icmp_eq (tgt := 95) dX8_cheapest_83 (by decide) rfl (fun h_83 => ?_) (fun h_83 => ?_)
        · refine V_bipush (v := 100) (by decide) dX8_cheapest_95 rfl ?_
          refine V_iload (i := 4) rfl dX8_cheapest_97 rfl ?_
          refine V_imul dX8_cheapest_99 rfl ?_
          refine V_iload (i := 5) rfl dX8_cheapest_100 rfl ?_
          refine V_iadd dX8_cheapest_102 rfl ?_
          refine V_goto (tgt := 107) dX8_cheapest_103 (by decide) ?_
          refine V_istore_n (i := 3) rfl (by decide) rfl dX8_cheapest_107 rfl ?_
          refine V_iincm (i := 4) rfl (by decide) rfl dX8_cheapest_108 rfl ?_
          refine V_goto (tgt := 17) dX8_cheapest_111 (by decide) ?_
          refine V_forget 5 rfl ?_
          refine V_forget 6 rfl ?_
          have h9 := kk
          unfold aChS at h9
          first
            | exact absurd rfl h_77
            | exact absurd h_77 (by decide)
            | (rw [if_pos (⟨⟨h_45, Int32.not_lt.mp h_52, h_65⟩, Or.inl h_83⟩ : (¬ nI b = nI p ∧ aAsk s (s (wi p k + 0)) b ≤ 99 ∧ aRea s p k b (aAsk s (s (wi p k + 0)) b) = 0) ∧ (f = -5 ∨ aAsk s (s (wi p k + 0)) b ≤ f - f / 100 * 100))] at h9; exact h9)
            | (rw [if_pos (⟨⟨h_45, Int32.not_lt.mp h_52, h_65⟩, Or.inr (Int32.not_lt.mp h_92)⟩ : (¬ nI b = nI p ∧ aAsk s (s (wi p k + 0)) b ≤ 99 ∧ aRea s p k b (aAsk s (s (wi p k + 0)) b) = 0) ∧ (f = -5 ∨ aAsk s (s (wi p k + 0)) b ≤ f - f / 100 * 100))] at h9; exact h9)
            | (rw [if_neg ((fun h => h.2.elim h_83 (fun h2 => Int32.not_lt.mpr h2 h_92)) : ¬ ((¬ nI b = nI p ∧ aAsk s (s (wi p k + 0)) b ≤ 99 ∧ aRea s p k b (aAsk s (s (wi p k + 0)) b) = 0) ∧ (f = -5 ∨ aAsk s (s (wi p k + 0)) b ≤ f - f / 100 * 100)))] at h9; exact h9)
            | (rw [if_neg ((fun h => h_65 h.1.2.2) : ¬ ((¬ nI b = nI p ∧ aAsk s (s (wi p k + 0)) b ≤ 99 ∧ aRea s p k b (aAsk s (s (wi p k + 0)) b) = 0) ∧ (f = -5 ∨ aAsk s (s (wi p k + 0)) b ≤ f - f / 100 * 100)))] at h9; exact h9)
            | (rw [if_neg ((fun h => Int32.not_lt.mpr h.1.2.1 h_52) : ¬ ((¬ nI b = nI p ∧ aAsk s (s (wi p k + 0)) b ≤ 99 ∧ aRea s p k b (aAsk s (s (wi p k + 0)) b) = 0) ∧ (f = -5 ∨ aAsk s (s (wi p k + 0)) b ≤ f - f / 100 * 100)))] at h9; exact h9)
            | (rw [if_neg ((fun h => h.1.1 h_45) : ¬ ((¬ nI b = nI p ∧ aAsk s (s (wi p k + 0)) b ≤ 99 ∧ aRea s p k b (aAsk s (s (wi p k + 0)) b) = 0) ∧ (f = -5 ∨ aAsk s (s (wi p k + 0)) b ≤ f - f / 100 * 100)))] at h9; exact h9)
        · refine V_iload (i := 5) rfl dX8_cheapest_86 rfl ?_
          refine V_iload_n (i := 3) rfl rfl dX8_cheapest_88 rfl ?_
          refine V_bipush (v := 100) (by decide) dX8_cheapest_89 rfl ?_
          refine V_irem (by decide) dX8_cheapest_91 rfl ?_
          refine V_icmp_gt (tgt := 106) dX8_cheapest_92 (by decide) rfl (fun h_92 => ?_) (fun h_92 => ?_)
          · refine V_iload_n (i := 3) rfl rfl dX8_cheapest_106 rfl ?_
            refine V_istore_n (i := 3) rfl (by decide) rfl dX8_cheapest_107 rfl ?_
            refine V_iincm (i := 4) rfl (by decide) rfl dX8_cheapest_108 rfl ?_
            refine V_goto (tgt := 17) dX8_cheapest_111 (by decide) ?_
            refine V_forget 5 rfl ?_
            refine V_forget 6 rfl ?_
            have h9 := kk
            unfold aChS at h9
            first
              | exact absurd rfl h_77
              | exact absurd h_77 (by decide)
              | (rw [if_pos (⟨⟨h_45, Int32.not_lt.mp h_52, h_65⟩, Or.inl h_83⟩ : (¬ nI b = nI p ∧ aAsk s (s (wi p k + 0)) b ≤ 99 ∧ aRea s p k b (aAsk s (s (wi p k + 0)) b) = 0) ∧ (f = -5 ∨ aAsk s (s (wi p k + 0)) b ≤ f - f / 100 * 100))] at h9; exact h9)
              | (rw [if_pos (⟨⟨h_45, Int32.not_lt.mp h_52, h_65⟩, Or.inr (Int32.not_lt.mp h_92)⟩ : (¬ nI b = nI p ∧ aAsk s (s (wi p k + 0)) b ≤ 99 ∧ aRea s p k b (aAsk s (s (wi p k + 0)) b) = 0) ∧ (f = -5 ∨ aAsk s (s (wi p k + 0)) b ≤ f - f / 100 * 100))] at h9; exact h9)
              | (rw [if_neg ((fun h => h.2.elim h_83 (fun h2 => Int32.not_lt.mpr h2 h_92)) : ¬ ((¬ nI b = nI p ∧ aAsk s (s (wi p k + 0)) b ≤ 99 ∧ aRea s p k b (aAsk s (s (wi p k + 0)) b) = 0) ∧ (f = -5 ∨ aAsk s (s (wi p k + 0)) b ≤ f - f / 100 * 100)))] at h9; exact h9)
              | (rw [if_neg ((fun h => h_65 h.1.2.2) : ¬ ((¬ nI b = nI p ∧ aAsk s (s (wi p k + 0)) b ≤ 99 ∧ aRea s p k b (aAsk s (s (wi p k + 0)) b) = 0) ∧ (f = -5 ∨ aAsk s (s (wi p k + 0)) b ≤ f - f / 100 * 100)))] at h9; exact h9)
              | (rw [if_neg ((fun h => Int32.not_lt.mpr h.1.2.1 h_52) : ¬ ((¬ nI b = nI p ∧ aAsk s (s (wi p k + 0)) b ≤ 99 ∧ aRea s p k b (aAsk s (s (wi p k + 0)) b) = 0) ∧ (f = -5 ∨ aAsk s (s (wi p k + 0)) b ≤ f - f / 100 * 100)))] at h9; exact h9)
              | (rw [if_neg ((fun h => h.1.1 h_45) : ¬ ((¬ nI b = nI p ∧ aAsk s (s (wi p k + 0)) b ≤ 99 ∧ aRea s p k b (aAsk s (s (wi p k + 0)) b) = 0) ∧ (f = -5 ∨ aAsk s (s (wi p k + 0)) b ≤ f - f / 100 * 100)))] at h9; exact h9)
          · refine V_bipush (v := 100) (by decide) dX8_cheapest_95 rfl ?_
            refine V_iload (i := 4) rfl dX8_cheapest_97 rfl ?_
            refine V_imul dX8_cheapest_99 rfl ?_
            refine V_iload (i := 5) rfl dX8_cheapest_100 rfl ?_
            refine V_iadd dX8_cheapest_102 rfl ?_
            refine V_goto (tgt := 107) dX8_cheapest_103 (by decide) ?_
            refine V_istore_n (i := 3) rfl (by decide) rfl dX8_cheapest_107 rfl ?_
            refine V_iincm (i := 4) rfl (by decide) rfl dX8_cheapest_108 rfl ?_
            refine V_goto (tgt := 17) dX8_cheapest_111 (by decide) ?_
            refine V_forget 5 rfl ?_
            refine V_forget 6 rfl ?_
            have h9 := kk
            unfold aChS at h9
            first
              | exact absurd rfl h_77
              | exact absurd h_77 (by decide)
              | (rw [if_pos (⟨⟨h_45, Int32.not_lt.mp h_52, h_65⟩, Or.inl h_83⟩ : (¬ nI b = nI p ∧ aAsk s (s (wi p k + 0)) b ≤ 99 ∧ aRea s p k b (aAsk s (s (wi p k + 0)) b) = 0) ∧ (f = -5 ∨ aAsk s (s (wi p k + 0)) b ≤ f - f / 100 * 100))] at h9; exact h9)
              | (rw [if_pos (⟨⟨h_45, Int32.not_lt.mp h_52, h_65⟩, Or.inr (Int32.not_lt.mp h_92)⟩ : (¬ nI b = nI p ∧ aAsk s (s (wi p k + 0)) b ≤ 99 ∧ aRea s p k b (aAsk s (s (wi p k + 0)) b) = 0) ∧ (f = -5 ∨ aAsk s (s (wi p k + 0)) b ≤ f - f / 100 * 100))] at h9; exact h9)
              | (rw [if_neg ((fun h => h.2.elim h_83 (fun h2 => Int32.not_lt.mpr h2 h_92)) : ¬ ((¬ nI b = nI p ∧ aAsk s (s (wi p k + 0)) b ≤ 99 ∧ aRea s p k b (aAsk s (s (wi p k + 0)) b) = 0) ∧ (f = -5 ∨ aAsk s (s (wi p k + 0)) b ≤ f - f / 100 * 100)))] at h9; exact h9)
              | (rw [if_neg ((fun h => h_65 h.1.2.2) : ¬ ((¬ nI b = nI p ∧ aAsk s (s (wi p k + 0)) b ≤ 99 ∧ aRea s p k b (aAsk s (s (wi p k + 0)) b) = 0) ∧ (f = -5 ∨ aAsk s (s (wi p k + 0)) b ≤ f - f / 100 * 100)))] at h9; exact h9)
              | (rw [if_neg ((fun h => Int32.not_lt.mpr h.1.2.1 h_52) : ¬ ((¬ nI b = nI p ∧ aAsk s (s (wi p k + 0)) b ≤ 99 ∧ aRea s p k b (aAsk s (s (wi p k + 0)) b) = 0) ∧ (f = -5 ∨ aAsk s (s (wi p k + 0)) b ≤ f - f / 100 * 100)))] at h9; exact h9)
              | (rw [if_neg ((fun h => h.1.1 h_45) : ¬ ((¬ nI b = nI p ∧ aAsk s (s (wi p k + 0)) b ≤ 99 ∧ aRea s p k b (aAsk s (s (wi p k + 0)) b) = 0) ∧ (f = -5 ∨ aAsk s (s (wi p k + 0)) b ≤ f - f / 100 * 100)))] at h9; exact h9)
    · refine V_aload_n (i := 0) rfl rfl dX8_cheapest_55 rfl ?_
      refine V_iload_n (i := 1) rfl rfl dX8_cheapest_56 rfl ?_
      refine V_iload_n (i := 2) rfl rfl dX8_cheapest_57 rfl ?_
      refine V_iload (i := 4) rfl dX8_cheapest_58 rfl ?_
      refine V_iload (i := 5) rfl dX8_cheapest_60 rfl ?_
      refine V_call (n := 4) (sp_reason l g hM hp hk hb (aAsk s (s (wi p k + 0)) b)) o_X8_reason m_X8_133 ⟨by decide, by decide⟩ (by assumption) rfl rfl (by first | exact Nat.le_of_ble_eq_true rfl | simp [Value.category]) (Nat.le_refl _) (Nat.le_refl _) rfl dX8_cheapest_62 rfl (kI ?_)
      refine V_if_ne (tgt := 72) dX8_cheapest_65 (by decide) rfl (fun h_65 => ?_) (fun h_65 => ?_)
      · refine V_iconst (v := 0) (by decide) dX8_cheapest_72 rfl ?_
        refine V_istore (i := 6) (by decide) rfl dX8_cheapest_73 rfl ?_
        refine V_iload (i := 6) rfl dX8_cheapest_75 rfl ?_
        refine V_if_eq (tgt := 106) dX8_cheapest_77 (by decide) rfl (fun h_77 => ?_) (fun h_77 => ?_)
        · refine V_iload_n (i := 3) rfl rfl dX8_cheapest_106 rfl ?_
          refine V_istore_n (i := 3) rfl (by decide) rfl dX8_cheapest_107 rfl ?_
          refine V_iincm (i := 4) rfl (by decide) rfl dX8_cheapest_108 rfl ?_
          refine V_goto (tgt := 17) dX8_cheapest_111 (by decide) ?_
          refine V_forget 5 rfl ?_
          refine V_forget 6 rfl ?_
          have h9 := kk
          unfold aChS at h9
          first
            | exact absurd rfl h_77
            | exact absurd h_77 (by decide)
            | (rw [if_pos (⟨⟨h_45, Int32.not_lt.mp h_52, h_65⟩, Or.inl h_83⟩ : (¬ nI b = nI p ∧ aAsk s (s (wi p k + 0)) b ≤ 99 ∧ aRea s p k b (aAsk s (s (wi p k + 0)) b) = 0) ∧ (f = -5 ∨ aAsk s (s (wi p k + 0)) b ≤ f - f / 100 * 100))] at h9; exact h9)
            | (rw [if_pos (⟨⟨h_45, Int32.not_lt.mp h_52, h_65⟩, Or.inr (Int32.not_lt.mp h_92)⟩ : (¬ nI b = nI p ∧ aAsk s (s (wi p k + 0)) b ≤ 99 ∧ aRea s p k b (aAsk s (s (wi p k + 0)) b) = 0) ∧ (f = -5 ∨ aAsk s (s (wi p k + 0)) b ≤ f - f / 100 * 100))] at h9; exact h9)
            | (rw [if_neg ((fun h => h.2.elim h_83 (fun h2 => Int32.not_lt.mpr h2 h_92)) : ¬ ((¬ nI b = nI p ∧ aAsk s (s (wi p k + 0)) b ≤ 99 ∧ aRea s p k b (aAsk s (s (wi p k + 0)) b) = 0) ∧ (f = -5 ∨ aAsk s (s (wi p k + 0)) b ≤ f - f / 100 * 100)))] at h9; exact h9)
            | (rw [if_neg ((fun h => h_65 h.1.2.2) : ¬ ((¬ nI b = nI p ∧ aAsk s (s (wi p k + 0)) b ≤ 99 ∧ aRea s p k b (aAsk s (s (wi p k + 0)) b) = 0) ∧ (f = -5 ∨ aAsk s (s (wi p k + 0)) b ≤ f - f / 100 * 100)))] at h9; exact h9)
            | (rw [if_neg ((fun h => Int32.not_lt.mpr h.1.2.1 h_52) : ¬ ((¬ nI b = nI p ∧ aAsk s (s (wi p k + 0)) b ≤ 99 ∧ aRea s p k b (aAsk s (s (wi p k + 0)) b) = 0) ∧ (f = -5 ∨ aAsk s (s (wi p k + 0)) b ≤ f - f / 100 * 100)))] at h9; exact h9)
            | (rw [if_neg ((fun h => h.1.1 h_45) : ¬ ((¬ nI b = nI p ∧ aAsk s (s (wi p k + 0)) b ≤ 99 ∧ aRea s p k b (aAsk s (s (wi p k + 0)) b) = 0) ∧ (f = -5 ∨ aAsk s (s (wi p k + 0)) b ≤ f - f / 100 * 100)))] at h9; exact h9)
        · refine V_iload_n (i := 3) rfl rfl dX8_cheapest_80 rfl ?_
          refine V_bipush (v := (-5)) (by decide) dX8_cheapest_81 rfl ?_
          refine V_icmp_eq (tgt := 95) dX8_cheapest_83 (by decide) rfl (fun h_83 => ?_) (fun h_83 => ?_)
          · refine V_bipush (v := 100) (by decide) dX8_cheapest_95 rfl ?_
            refine V_iload (i := 4) rfl dX8_cheapest_97 rfl ?_
            refine V_imul dX8_cheapest_99 rfl ?_
            refine V_iload (i := 5) rfl dX8_cheapest_100 rfl ?_
            refine V_iadd dX8_cheapest_102 rfl ?_
            refine V_goto (tgt := 107) dX8_cheapest_103 (by decide) ?_
            refine V_istore_n (i := 3) rfl (by decide) rfl dX8_cheapest_107 rfl ?_
            refine V_iincm (i := 4) rfl (by decide) rfl dX8_cheapest_108 rfl ?_
            refine V_goto (tgt := 17) dX8_cheapest_111 (by decide) ?_
            refine V_forget 5 rfl ?_
            refine V_forget 6 rfl ?_
            have h9 := kk
            unfold aChS at h9
            first
              | exact absurd rfl h_77
              | exact absurd h_77 (by decide)
              | (rw [if_pos (⟨⟨h_45, Int32.not_lt.mp h_52, h_65⟩, Or.inl h_83⟩ : (¬ nI b = nI p ∧ aAsk s (s (wi p k + 0)) b ≤ 99 ∧ aRea s p k b (aAsk s (s (wi p k + 0)) b) = 0) ∧ (f = -5 ∨ aAsk s (s (wi p k + 0)) b ≤ f - f / 100 * 100))] at h9; exact h9)
              | (rw [if_pos (⟨⟨h_45, Int32.not_lt.mp h_52, h_65⟩, Or.inr (Int32.not_lt.mp h_92)⟩ : (¬ nI b = nI p ∧ aAsk s (s (wi p k + 0)) b ≤ 99 ∧ aRea s p k b (aAsk s (s (wi p k + 0)) b) = 0) ∧ (f = -5 ∨ aAsk s (s (wi p k + 0)) b ≤ f - f / 100 * 100))] at h9; exact h9)
              | (rw [if_neg ((fun h => h.2.elim h_83 (fun h2 => Int32.not_lt.mpr h2 h_92)) : ¬ ((¬ nI b = nI p ∧ aAsk s (s (wi p k + 0)) b ≤ 99 ∧ aRea s p k b (aAsk s (s (wi p k + 0)) b) = 0) ∧ (f = -5 ∨ aAsk s (s (wi p k + 0)) b ≤ f - f / 100 * 100)))] at h9; exact h9)
              | (rw [if_neg ((fun h => h_65 h.1.2.2) : ¬ ((¬ nI b = nI p ∧ aAsk s (s (wi p k + 0)) b ≤ 99 ∧ aRea s p k b (aAsk s (s (wi p k + 0)) b) = 0) ∧ (f = -5 ∨ aAsk s (s (wi p k + 0)) b ≤ f - f / 100 * 100)))] at h9; exact h9)
              | (rw [if_neg ((fun h => Int32.not_lt.mpr h.1.2.1 h_52) : ¬ ((¬ nI b = nI p ∧ aAsk s (s (wi p k + 0)) b ≤ 99 ∧ aRea s p k b (aAsk s (s (wi p k + 0)) b) = 0) ∧ (f = -5 ∨ aAsk s (s (wi p k + 0)) b ≤ f - f / 100 * 100)))] at h9; exact h9)
              | (rw [if_neg ((fun h => h.1.1 h_45) : ¬ ((¬ nI b = nI p ∧ aAsk s (s (wi p k + 0)) b ≤ 99 ∧ aRea s p k b (aAsk s (s (wi p k + 0)) b) = 0) ∧ (f = -5 ∨ aAsk s (s (wi p k + 0)) b ≤ f - f / 100 * 100)))] at h9; exact h9)
          · refine V_iload (i := 5) rfl dX8_cheapest_86 rfl ?_
            refine V_iload_n (i := 3) rfl rfl dX8_cheapest_88 rfl ?_
            refine V_bipush (v := 100) (by decide) dX8_cheapest_89 rfl ?_
            refine V_irem (by decide) dX8_cheapest_91 rfl ?_
            refine V_icmp_gt (tgt := 106) dX8_cheapest_92 (by decide) rfl (fun h_92 => ?_) (fun h_92 => ?_)
            · refine V_iload_n (i := 3) rfl rfl dX8_cheapest_106 rfl ?_
              refine V_istore_n (i := 3) rfl (by decide) rfl dX8_cheapest_107 rfl ?_
              refine V_iincm (i := 4) rfl (by decide) rfl dX8_cheapest_108 rfl ?_
              refine V_goto (tgt := 17) dX8_cheapest_111 (by decide) ?_
              refine V_forget 5 rfl ?_
              refine V_forget 6 rfl ?_
              have h9 := kk
              unfold aChS at h9
              first
                | exact absurd rfl h_77
                | exact absurd h_77 (by decide)
                | (rw [if_pos (⟨⟨h_45, Int32.not_lt.mp h_52, h_65⟩, Or.inl h_83⟩ : (¬ nI b = nI p ∧ aAsk s (s (wi p k + 0)) b ≤ 99 ∧ aRea s p k b (aAsk s (s (wi p k + 0)) b) = 0) ∧ (f = -5 ∨ aAsk s (s (wi p k + 0)) b ≤ f - f / 100 * 100))] at h9; exact h9)
                | (rw [if_pos (⟨⟨h_45, Int32.not_lt.mp h_52, h_65⟩, Or.inr (Int32.not_lt.mp h_92)⟩ : (¬ nI b = nI p ∧ aAsk s (s (wi p k + 0)) b ≤ 99 ∧ aRea s p k b (aAsk s (s (wi p k + 0)) b) = 0) ∧ (f = -5 ∨ aAsk s (s (wi p k + 0)) b ≤ f - f / 100 * 100))] at h9; exact h9)
                | (rw [if_neg ((fun h => h.2.elim h_83 (fun h2 => Int32.not_lt.mpr h2 h_92)) : ¬ ((¬ nI b = nI p ∧ aAsk s (s (wi p k + 0)) b ≤ 99 ∧ aRea s p k b (aAsk s (s (wi p k + 0)) b) = 0) ∧ (f = -5 ∨ aAsk s (s (wi p k + 0)) b ≤ f - f / 100 * 100)))] at h9; exact h9)
                | (rw [if_neg ((fun h => h_65 h.1.2.2) : ¬ ((¬ nI b = nI p ∧ aAsk s (s (wi p k + 0)) b ≤ 99 ∧ aRea s p k b (aAsk s (s (wi p k + 0)) b) = 0) ∧ (f = -5 ∨ aAsk s (s (wi p k + 0)) b ≤ f - f / 100 * 100)))] at h9; exact h9)
                | (rw [if_neg ((fun h => Int32.not_lt.mpr h.1.2.1 h_52) : ¬ ((¬ nI b = nI p ∧ aAsk s (s (wi p k + 0)) b ≤ 99 ∧ aRea s p k b (aAsk s (s (wi p k + 0)) b) = 0) ∧ (f = -5 ∨ aAsk s (s (wi p k + 0)) b ≤ f - f / 100 * 100)))] at h9; exact h9)
                | (rw [if_neg ((fun h => h.1.1 h_45) : ¬ ((¬ nI b = nI p ∧ aAsk s (s (wi p k + 0)) b ≤ 99 ∧ aRea s p k b (aAsk s (s (wi p k + 0)) b) = 0) ∧ (f = -5 ∨ aAsk s (s (wi p k + 0)) b ≤ f - f / 100 * 100)))] at h9; exact h9)
            · refine V_bipush (v := 100) (by decide) dX8_cheapest_95 rfl ?_
              refine V_iload (i := 4) rfl dX8_cheapest_97 rfl ?_
              refine V_imul dX8_cheapest_99 rfl ?_
              refine V_iload (i := 5) rfl dX8_cheapest_100 rfl ?_
              refine V_iadd dX8_cheapest_102 rfl ?_
              refine V_goto (tgt := 107) dX8_cheapest_103 (by decide) ?_
              refine V_istore_n (i := 3) rfl (by decide) rfl dX8_cheapest_107 rfl ?_
              refine V_iincm (i := 4) rfl (by decide) rfl dX8_cheapest_108 rfl ?_
              refine V_goto (tgt := 17) dX8_cheapest_111 (by decide) ?_
              refine V_forget 5 rfl ?_
              refine V_forget 6 rfl ?_
              have h9 := kk
              unfold aChS at h9
              first
                | exact absurd rfl h_77
                | exact absurd h_77 (by decide)
                | (rw [if_pos (⟨⟨h_45, Int32.not_lt.mp h_52, h_65⟩, Or.inl h_83⟩ : (¬ nI b = nI p ∧ aAsk s (s (wi p k + 0)) b ≤ 99 ∧ aRea s p k b (aAsk s (s (wi p k + 0)) b) = 0) ∧ (f = -5 ∨ aAsk s (s (wi p k + 0)) b ≤ f - f / 100 * 100))] at h9; exact h9)
                | (rw [if_pos (⟨⟨h_45, Int32.not_lt.mp h_52, h_65⟩, Or.inr (Int32.not_lt.mp h_92)⟩ : (¬ nI b = nI p ∧ aAsk s (s (wi p k + 0)) b ≤ 99 ∧ aRea s p k b (aAsk s (s (wi p k + 0)) b) = 0) ∧ (f = -5 ∨ aAsk s (s (wi p k + 0)) b ≤ f - f / 100 * 100))] at h9; exact h9)
                | (rw [if_neg ((fun h => h.2.elim h_83 (fun h2 => Int32.not_lt.mpr h2 h_92)) : ¬ ((¬ nI b = nI p ∧ aAsk s (s (wi p k + 0)) b ≤ 99 ∧ aRea s p k b (aAsk s (s (wi p k + 0)) b) = 0) ∧ (f = -5 ∨ aAsk s (s (wi p k + 0)) b ≤ f - f / 100 * 100)))] at h9; exact h9)
                | (rw [if_neg ((fun h => h_65 h.1.2.2) : ¬ ((¬ nI b = nI p ∧ aAsk s (s (wi p k + 0)) b ≤ 99 ∧ aRea s p k b (aAsk s (s (wi p k + 0)) b) = 0) ∧ (f = -5 ∨ aAsk s (s (wi p k + 0)) b ≤ f - f / 100 * 100)))] at h9; exact h9)
                | (rw [if_neg ((fun h => Int32.not_lt.mpr h.1.2.1 h_52) : ¬ ((¬ nI b = nI p ∧ aAsk s (s (wi p k + 0)) b ≤ 99 ∧ aRea s p k b (aAsk s (s (wi p k + 0)) b) = 0) ∧ (f = -5 ∨ aAsk s (s (wi p k + 0)) b ≤ f - f / 100 * 100)))] at h9; exact h9)
                | (rw [if_neg ((fun h => h.1.1 h_45) : ¬ ((¬ nI b = nI p ∧ aAsk s (s (wi p k + 0)) b ≤ 99 ∧ aRea s p k b (aAsk s (s (wi p k + 0)) b) = 0) ∧ (f = -5 ∨ aAsk s (s (wi p k + 0)) b ≤ f - f / 100 * 100)))] at h9; exact h9)
      · refine V_iconst (v := 1) (by decide) dX8_cheapest_68 rfl ?_
        refine V_goto (tgt := 73) dX8_cheapest_69 (by decide) ?_
        refine V_istore (i := 6) (by decide) rfl dX8_cheapest_73 rfl ?_
        refine V_iload (i := 6) rfl dX8_cheapest_75 rfl ?_
        refine V_if_eq (tgt := 106) dX8_cheapest_77 (by decide) rfl (fun h_77 => ?_) (fun h_77 => ?_)
        · refine V_iload_n (i := 3) rfl rfl dX8_cheapest_106 rfl ?_
          refine V_istore_n (i := 3) rfl (by decide) rfl dX8_cheapest_107 rfl ?_
          refine V_iincm (i := 4) rfl (by decide) rfl dX8_cheapest_108 rfl ?_
          refine V_goto (tgt := 17) dX8_cheapest_111 (by decide) ?_
          refine V_forget 5 rfl ?_
          refine V_forget 6 rfl ?_
          have h9 := kk
          unfold aChS at h9
          first
            | exact absurd rfl h_77
            | exact absurd h_77 (by decide)
            | (rw [if_pos (⟨⟨h_45, Int32.not_lt.mp h_52, h_65⟩, Or.inl h_83⟩ : (¬ nI b = nI p ∧ aAsk s (s (wi p k + 0)) b ≤ 99 ∧ aRea s p k b (aAsk s (s (wi p k + 0)) b) = 0) ∧ (f = -5 ∨ aAsk s (s (wi p k + 0)) b ≤ f - f / 100 * 100))] at h9; exact h9)
            | (rw [if_pos (⟨⟨h_45, Int32.not_lt.mp h_52, h_65⟩, Or.inr (Int32.not_lt.mp h_92)⟩ : (¬ nI b = nI p ∧ aAsk s (s (wi p k + 0)) b ≤ 99 ∧ aRea s p k b (aAsk s (s (wi p k + 0)) b) = 0) ∧ (f = -5 ∨ aAsk s (s (wi p k + 0)) b ≤ f - f / 100 * 100))] at h9; exact h9)
            | (rw [if_neg ((fun h => h.2.elim h_83 (fun h2 => Int32.not_lt.mpr h2 h_92)) : ¬ ((¬ nI b = nI p ∧ aAsk s (s (wi p k + 0)) b ≤ 99 ∧ aRea s p k b (aAsk s (s (wi p k + 0)) b) = 0) ∧ (f = -5 ∨ aAsk s (s (wi p k + 0)) b ≤ f - f / 100 * 100)))] at h9; exact h9)
            | (rw [if_neg ((fun h => h_65 h.1.2.2) : ¬ ((¬ nI b = nI p ∧ aAsk s (s (wi p k + 0)) b ≤ 99 ∧ aRea s p k b (aAsk s (s (wi p k + 0)) b) = 0) ∧ (f = -5 ∨ aAsk s (s (wi p k + 0)) b ≤ f - f / 100 * 100)))] at h9; exact h9)
            | (rw [if_neg ((fun h => Int32.not_lt.mpr h.1.2.1 h_52) : ¬ ((¬ nI b = nI p ∧ aAsk s (s (wi p k + 0)) b ≤ 99 ∧ aRea s p k b (aAsk s (s (wi p k + 0)) b) = 0) ∧ (f = -5 ∨ aAsk s (s (wi p k + 0)) b ≤ f - f / 100 * 100)))] at h9; exact h9)
            | (rw [if_neg ((fun h => h.1.1 h_45) : ¬ ((¬ nI b = nI p ∧ aAsk s (s (wi p k + 0)) b ≤ 99 ∧ aRea s p k b (aAsk s (s (wi p k + 0)) b) = 0) ∧ (f = -5 ∨ aAsk s (s (wi p k + 0)) b ≤ f - f / 100 * 100)))] at h9; exact h9)
        · refine V_iload_n (i := 3) rfl rfl dX8_cheapest_80 rfl ?_
          refine V_bipush (v := (-5)) (by decide) dX8_cheapest_81 rfl ?_
          refine V_icmp_eq (tgt := 95) dX8_cheapest_83 (by decide) rfl (fun h_83 => ?_) (fun h_83 => ?_)
          · refine V_bipush (v := 100) (by decide) dX8_cheapest_95 rfl ?_
            refine V_iload (i := 4) rfl dX8_cheapest_97 rfl ?_
            refine V_imul dX8_cheapest_99 rfl ?_
            refine V_iload (i := 5) rfl dX8_cheapest_100 rfl ?_
            refine V_iadd dX8_cheapest_102 rfl ?_
            refine V_goto (tgt := 107) dX8_cheapest_103 (by decide) ?_
            refine V_istore_n (i := 3) rfl (by decide) rfl dX8_cheapest_107 rfl ?_
            refine V_iincm (i := 4) rfl (by decide) rfl dX8_cheapest_108 rfl ?_
            refine V_goto (tgt := 17) dX8_cheapest_111 (by decide) ?_
            refine V_forget 5 rfl ?_
            refine V_forget 6 rfl ?_
            have h9 := kk
            unfold aChS at h9
            first
              | exact absurd rfl h_77
              | exact absurd h_77 (by decide)
              | (rw [if_pos (⟨⟨h_45, Int32.not_lt.mp h_52, h_65⟩, Or.inl h_83⟩ : (¬ nI b = nI p ∧ aAsk s (s (wi p k + 0)) b ≤ 99 ∧ aRea s p k b (aAsk s (s (wi p k + 0)) b) = 0) ∧ (f = -5 ∨ aAsk s (s (wi p k + 0)) b ≤ f - f / 100 * 100))] at h9; exact h9)
              | (rw [if_pos (⟨⟨h_45, Int32.not_lt.mp h_52, h_65⟩, Or.inr (Int32.not_lt.mp h_92)⟩ : (¬ nI b = nI p ∧ aAsk s (s (wi p k + 0)) b ≤ 99 ∧ aRea s p k b (aAsk s (s (wi p k + 0)) b) = 0) ∧ (f = -5 ∨ aAsk s (s (wi p k + 0)) b ≤ f - f / 100 * 100))] at h9; exact h9)
              | (rw [if_neg ((fun h => h.2.elim h_83 (fun h2 => Int32.not_lt.mpr h2 h_92)) : ¬ ((¬ nI b = nI p ∧ aAsk s (s (wi p k + 0)) b ≤ 99 ∧ aRea s p k b (aAsk s (s (wi p k + 0)) b) = 0) ∧ (f = -5 ∨ aAsk s (s (wi p k + 0)) b ≤ f - f / 100 * 100)))] at h9; exact h9)
              | (rw [if_neg ((fun h => h_65 h.1.2.2) : ¬ ((¬ nI b = nI p ∧ aAsk s (s (wi p k + 0)) b ≤ 99 ∧ aRea s p k b (aAsk s (s (wi p k + 0)) b) = 0) ∧ (f = -5 ∨ aAsk s (s (wi p k + 0)) b ≤ f - f / 100 * 100)))] at h9; exact h9)
              | (rw [if_neg ((fun h => Int32.not_lt.mpr h.1.2.1 h_52) : ¬ ((¬ nI b = nI p ∧ aAsk s (s (wi p k + 0)) b ≤ 99 ∧ aRea s p k b (aAsk s (s (wi p k + 0)) b) = 0) ∧ (f = -5 ∨ aAsk s (s (wi p k + 0)) b ≤ f - f / 100 * 100)))] at h9; exact h9)
              | (rw [if_neg ((fun h => h.1.1 h_45) : ¬ ((¬ nI b = nI p ∧ aAsk s (s (wi p k + 0)) b ≤ 99 ∧ aRea s p k b (aAsk s (s (wi p k + 0)) b) = 0) ∧ (f = -5 ∨ aAsk s (s (wi p k + 0)) b ≤ f - f / 100 * 100)))] at h9; exact h9)
          · refine V_iload (i := 5) rfl dX8_cheapest_86 rfl ?_
            refine V_iload_n (i := 3) rfl rfl dX8_cheapest_88 rfl ?_
            refine V_bipush (v := 100) (by decide) dX8_cheapest_89 rfl ?_
            refine V_irem (by decide) dX8_cheapest_91 rfl ?_
            refine V_icmp_gt (tgt := 106) dX8_cheapest_92 (by decide) rfl (fun h_92 => ?_) (fun h_92 => ?_)
            · refine V_iload_n (i := 3) rfl rfl dX8_cheapest_106 rfl ?_
              refine V_istore_n (i := 3) rfl (by decide) rfl dX8_cheapest_107 rfl ?_
              refine V_iincm (i := 4) rfl (by decide) rfl dX8_cheapest_108 rfl ?_
              refine V_goto (tgt := 17) dX8_cheapest_111 (by decide) ?_
              refine V_forget 5 rfl ?_
              refine V_forget 6 rfl ?_
              have h9 := kk
              unfold aChS at h9
              first
                | exact absurd rfl h_77
                | exact absurd h_77 (by decide)
                | (rw [if_pos (⟨⟨h_45, Int32.not_lt.mp h_52, h_65⟩, Or.inl h_83⟩ : (¬ nI b = nI p ∧ aAsk s (s (wi p k + 0)) b ≤ 99 ∧ aRea s p k b (aAsk s (s (wi p k + 0)) b) = 0) ∧ (f = -5 ∨ aAsk s (s (wi p k + 0)) b ≤ f - f / 100 * 100))] at h9; exact h9)
                | (rw [if_pos (⟨⟨h_45, Int32.not_lt.mp h_52, h_65⟩, Or.inr (Int32.not_lt.mp h_92)⟩ : (¬ nI b = nI p ∧ aAsk s (s (wi p k + 0)) b ≤ 99 ∧ aRea s p k b (aAsk s (s (wi p k + 0)) b) = 0) ∧ (f = -5 ∨ aAsk s (s (wi p k + 0)) b ≤ f - f / 100 * 100))] at h9; exact h9)
                | (rw [if_neg ((fun h => h.2.elim h_83 (fun h2 => Int32.not_lt.mpr h2 h_92)) : ¬ ((¬ nI b = nI p ∧ aAsk s (s (wi p k + 0)) b ≤ 99 ∧ aRea s p k b (aAsk s (s (wi p k + 0)) b) = 0) ∧ (f = -5 ∨ aAsk s (s (wi p k + 0)) b ≤ f - f / 100 * 100)))] at h9; exact h9)
                | (rw [if_neg ((fun h => h_65 h.1.2.2) : ¬ ((¬ nI b = nI p ∧ aAsk s (s (wi p k + 0)) b ≤ 99 ∧ aRea s p k b (aAsk s (s (wi p k + 0)) b) = 0) ∧ (f = -5 ∨ aAsk s (s (wi p k + 0)) b ≤ f - f / 100 * 100)))] at h9; exact h9)
                | (rw [if_neg ((fun h => Int32.not_lt.mpr h.1.2.1 h_52) : ¬ ((¬ nI b = nI p ∧ aAsk s (s (wi p k + 0)) b ≤ 99 ∧ aRea s p k b (aAsk s (s (wi p k + 0)) b) = 0) ∧ (f = -5 ∨ aAsk s (s (wi p k + 0)) b ≤ f - f / 100 * 100)))] at h9; exact h9)
                | (rw [if_neg ((fun h => h.1.1 h_45) : ¬ ((¬ nI b = nI p ∧ aAsk s (s (wi p k + 0)) b ≤ 99 ∧ aRea s p k b (aAsk s (s (wi p k + 0)) b) = 0) ∧ (f = -5 ∨ aAsk s (s (wi p k + 0)) b ≤ f - f / 100 * 100)))] at h9; exact h9)
            · refine V_bipush (v := 100) (by decide) dX8_cheapest_95 rfl ?_
              refine V_iload (i := 4) rfl dX8_cheapest_97 rfl ?_
              refine V_imul dX8_cheapest_99 rfl ?_
              refine V_iload (i := 5) rfl dX8_cheapest_100 rfl ?_
              refine V_iadd dX8_cheapest_102 rfl ?_
              refine V_goto (tgt := 107) dX8_cheapest_103 (by decide) ?_
              refine V_istore_n (i := 3) rfl (by decide) rfl dX8_cheapest_107 rfl ?_
              refine V_iincm (i := 4) rfl (by decide) rfl dX8_cheapest_108 rfl ?_
              refine V_goto (tgt := 17) dX8_cheapest_111 (by decide) ?_
              refine V_forget 5 rfl ?_
              refine V_forget 6 rfl ?_
              have h9 := kk
              unfold aChS at h9
              first
                | exact absurd rfl h_77
                | exact absurd h_77 (by decide)
                | (rw [if_pos (⟨⟨h_45, Int32.not_lt.mp h_52, h_65⟩, Or.inl h_83⟩ : (¬ nI b = nI p ∧ aAsk s (s (wi p k + 0)) b ≤ 99 ∧ aRea s p k b (aAsk s (s (wi p k + 0)) b) = 0) ∧ (f = -5 ∨ aAsk s (s (wi p k + 0)) b ≤ f - f / 100 * 100))] at h9; exact h9)
                | (rw [if_pos (⟨⟨h_45, Int32.not_lt.mp h_52, h_65⟩, Or.inr (Int32.not_lt.mp h_92)⟩ : (¬ nI b = nI p ∧ aAsk s (s (wi p k + 0)) b ≤ 99 ∧ aRea s p k b (aAsk s (s (wi p k + 0)) b) = 0) ∧ (f = -5 ∨ aAsk s (s (wi p k + 0)) b ≤ f - f / 100 * 100))] at h9; exact h9)
                | (rw [if_neg ((fun h => h.2.elim h_83 (fun h2 => Int32.not_lt.mpr h2 h_92)) : ¬ ((¬ nI b = nI p ∧ aAsk s (s (wi p k + 0)) b ≤ 99 ∧ aRea s p k b (aAsk s (s (wi p k + 0)) b) = 0) ∧ (f = -5 ∨ aAsk s (s (wi p k + 0)) b ≤ f - f / 100 * 100)))] at h9; exact h9)
                | (rw [if_neg ((fun h => h_65 h.1.2.2) : ¬ ((¬ nI b = nI p ∧ aAsk s (s (wi p k + 0)) b ≤ 99 ∧ aRea s p k b (aAsk s (s (wi p k + 0)) b) = 0) ∧ (f = -5 ∨ aAsk s (s (wi p k + 0)) b ≤ f - f / 100 * 100)))] at h9; exact h9)
                | (rw [if_neg ((fun h => Int32.not_lt.mpr h.1.2.1 h_52) : ¬ ((¬ nI b = nI p ∧ aAsk s (s (wi p k + 0)) b ≤ 99 ∧ aRea s p k b (aAsk s (s (wi p k + 0)) b) = 0) ∧ (f = -5 ∨ aAsk s (s (wi p k + 0)) b ≤ f - f / 100 * 100)))] at h9; exact h9)
                | (rw [if_neg ((fun h => h.1.1 h_45) : ¬ ((¬ nI b = nI p ∧ aAsk s (s (wi p k + 0)) b ≤ 99 ∧ aRea s p k b (aAsk s (s (wi p k + 0)) b) = 0) ∧ (f = -5 ∨ aAsk s (s (wi p k + 0)) b ≤ f - f / 100 * 100)))] at h9; exact h9)

set_option maxHeartbeats 4000000 in
set_option maxRecDepth 100000 in
theorem sp_cheapest (l : Launch) (g : fw_G) {I : fw_I} {P : fw_P} {s : Nat → Int32} (hM : MSh P) (hm : mOk s) (x y : Int32) : Sp l g kX8_cheapest T0 [.ref (g.1 + 688), .int x, .int y] (wr I 689 s) P T0 0 0 (qI (aCheX s x y) (wr I 689 s) P) := by
  have a688 := at_688
  have a689 := at_689
  obtain ⟨p0, p1, p3, p5, p6, p10, p12, p13⟩ := id hM
  refine Sp.of_V (L := [some (.ref (g.1 + 688)), some (.int x), some (.int y), none, none, none, none]) (by decide) (by simp [Value.category]) (Nat.le_of_ble_eq_true rfl) rfl ?_
  refine V_aload_n (i := 0) rfl rfl dX8_cheapest_0 rfl ?_
  refine V_iload_n (i := 1) rfl rfl dX8_cheapest_1 rfl ?_
  refine V_iload_n (i := 2) rfl rfl dX8_cheapest_2 rfl ?_
  refine V_call (n := 2) (sp_isBite l g hM x y) o_X8_isBite m_X8_103 ⟨by decide, by decide⟩ (by assumption) rfl rfl (by first | exact Nat.le_of_ble_eq_true rfl | simp [Value.category]) (Nat.le_refl _) (Nat.le_refl _) rfl dX8_cheapest_3 rfl (kI ?_)
  refine V_if_ne (tgt := 11) dX8_cheapest_6 (by decide) rfl (fun h_6 => ?_) (fun h_6 => ?_)
  · refine V_bipush (v := (-5)) (by decide) dX8_cheapest_11 rfl ?_
    refine V_istore_n (i := 3) rfl (by decide) rfl dX8_cheapest_13 rfl ?_
    refine V_iconst (v := 3) (by decide) dX8_cheapest_14 rfl ?_
    refine V_istore (i := 4) (by decide) rfl dX8_cheapest_15 rfl ?_
    have hbt := bI_nz h_6
    obtain ⟨p, k, hp, rfl, hk, rfl, hk20⟩ := aBt.nat hm hbt
    have hc : (nI p).toNatClampNeg = p := nI_clamp (by omega)
    have hck : (nI k).toNatClampNeg = k := nI_clamp (by omega)
    have e0 : aCheX s (nI p) (nI k) = aChe s p k := by unfold aCheX; rw [if_pos hbt, hc, hck]
    rw [e0]
    refine lp_che (b := 3) l g hM hp hk20 (by decide) (-5) ?_
    refine lp_che (b := 2) l g hM hp hk20 (by decide) _ ?_
    refine lp_che (b := 1) l g hM hp hk20 (by decide) _ ?_
    refine lp_che (b := 0) l g hM hp hk20 (by decide) _ ?_
    refine V_iload (i := 4) rfl dX8_cheapest_17 rfl ?_
    refine V_if_lt (tgt := 114) dX8_cheapest_19 (by decide) rfl (fun _ => ?_) (fun h => absurd (by decide : nI 0 + -1 < 0) h)
    refine V_iload_n (i := 3) rfl rfl dX8_cheapest_114 rfl ?_
    exact V_ireturn rfl rfl dX8_cheapest_115 rfl rfl rfl (qI.of rfl)
  · refine V_iconst (v := (-1)) (by decide) dX8_cheapest_9 rfl ?_
    exact V_ireturn rfl rfl dX8_cheapest_10 rfl rfl rfl (qI.of (by unfold aCheX; rw [if_neg (bI_z h_6)]))

set_option maxHeartbeats 4000000 in
set_option maxRecDepth 100000 in
theorem lp_dangers (l : Launch) (g : fw_G) {I : fw_I} {P : fw_P} {s : Nat → Int32} (hM : MSh P) (hm : mOk s) {p : Nat} (hp : p < 4) : ∀ (n j : Nat), j + n = 6 → V l g kX8_dangers T0 0 0 (qI (aDaF s p 6) (wr I 689 s) P) T0 (wr I 689 s) P 0 0 24 [some (.ref (g.1 + 688)), some (.int (nI p)), some (.int (aDaF s p j)), some (.int (nI (j + 1)))] [] := by
  have a688 := at_688
  have a689 := at_689
  obtain ⟨p0, p1, p3, p5, p6, p10, p12, p13⟩ := id hM
  intro n
  induction n with
  | zero =>
    intro j hj
    obtain rfl : j = 6 := by omega
    refine V_iload_n (i := 3) rfl rfl dX8_dangers_24 rfl ?_
    refine V_bipush (v := 6) (by decide) dX8_dangers_25 rfl ?_
    refine V_icmp_gt (tgt := 63) dX8_dangers_27 (by decide) rfl (fun _ => ?_) (fun h => absurd (nI_lt (a := 6) (by decide) (by decide)) h)
    refine V_iload_n (i := 2) rfl rfl dX8_dangers_63 rfl ?_
    exact V_ireturn rfl rfl dX8_dangers_64 rfl rfl rfl (qI.of rfl)
  | succ n ih =>
    intro j hj
    have hj10 : j < 6 := by omega
    refine V_iload_n (i := 3) rfl rfl dX8_dangers_24 rfl ?_
    refine V_bipush (v := 6) (by decide) dX8_dangers_25 rfl ?_
    refine V_icmp_gt (tgt := 63) dX8_dangers_27 (by decide) rfl (fun h => absurd h (nI_nlt (b := j + 1) (a := 6) (by omega) (by decide))) (fun _ => ?_)
    refine V_iload_n (i := 2) rfl rfl dX8_dangers_30 rfl ?_
    refine V_aload_n (i := 0) rfl rfl dX8_dangers_31 rfl ?_
    refine V_iload_n (i := 1) rfl rfl dX8_dangers_32 rfl ?_
    refine V_aload_n (i := 0) rfl rfl dX8_dangers_33 rfl ?_
    refine V_iload_n (i := 1) rfl rfl dX8_dangers_34 rfl ?_
    refine V_call (n := 1) (sp_beginsAt l g hM hm hp) o_X8_beginsAt m_X8_79 ⟨by decide, by decide⟩ (by assumption) rfl rfl (by first | exact Nat.le_of_ble_eq_true rfl | simp [Value.category]) (Nat.le_refl _) (Nat.le_refl _) rfl dX8_dangers_35 rfl (kI ?_)
    refine V_iload_n (i := 3) rfl rfl dX8_dangers_38 rfl ?_
    refine V_callS (n := 2) (sp_goOn l g _ _ (aBeg s p) (nI (j + 1))) o_X8_goOn m_X8_82 ⟨by decide, by decide⟩ rfl rfl (by first | exact Nat.le_of_ble_eq_true rfl | simp [Value.category]) (Nat.le_refl _) (Nat.le_refl _) rfl dX8_dangers_39 rfl (kI ?_)
    refine V_call (n := 2) (sp_bites l g hM hp (aGo (aBeg s p) (nI (j + 1)))) o_X8_bites m_X8_85 ⟨by decide, by decide⟩ (by assumption) rfl rfl (by first | exact Nat.le_of_ble_eq_true rfl | simp [Value.category]) (Nat.le_refl _) (Nat.le_refl _) rfl dX8_dangers_42 rfl (kB (fun r42 h42 => ?_))
    refine V_if_eq (tgt := 54) dX8_dangers_45 (by decide) rfl (fun h_45 => ?_) (fun h_45 => ?_)
    · refine V_iconst (v := 0) (by decide) dX8_dangers_54 rfl ?_
      refine V_ior dX8_dangers_55 rfl ?_
      refine V_istore_n (i := 2) rfl (by decide) rfl dX8_dangers_56 rfl ?_
      refine V_iinc1 (i := 3) rfl (by decide) rfl dX8_dangers_57 rfl ?_
      refine V_goto (tgt := 24) dX8_dangers_60 (by decide) ?_
      have h9 := ih (j + 1) (by omega)
      rw [← nI_1 (j + 1), show aDaF s p (j + 1) = aDaF s p j ||| (if aBites s p (aGo (aBeg s p) (nI (j + 1))) then 1 <<< (nI (j + 1) &&& 31) else 0) from rfl] at h9
      first
        | (rw [if_pos (h42.elim (fun h => h.2) (fun h => absurd h.1 h_45))] at h9; exact h9)
        | (rw [if_neg (h42.elim (fun h => absurd (h.1.symm.trans h_45) (by decide)) (fun h => h.2))] at h9; exact h9)
    · refine V_iconst (v := 1) (by decide) dX8_dangers_48 rfl ?_
      refine V_iload_n (i := 3) rfl rfl dX8_dangers_49 rfl ?_
      refine V_ishl dX8_dangers_50 rfl ?_
      refine V_goto (tgt := 55) dX8_dangers_51 (by decide) ?_
      refine V_ior dX8_dangers_55 rfl ?_
      refine V_istore_n (i := 2) rfl (by decide) rfl dX8_dangers_56 rfl ?_
      refine V_iinc1 (i := 3) rfl (by decide) rfl dX8_dangers_57 rfl ?_
      refine V_goto (tgt := 24) dX8_dangers_60 (by decide) ?_
      have h9 := ih (j + 1) (by omega)
      rw [← nI_1 (j + 1), show aDaF s p (j + 1) = aDaF s p j ||| (if aBites s p (aGo (aBeg s p) (nI (j + 1))) then 1 <<< (nI (j + 1) &&& 31) else 0) from rfl] at h9
      first
        | (rw [if_pos (h42.elim (fun h => h.2) (fun h => absurd h.1 h_45))] at h9; exact h9)
        | (rw [if_neg (h42.elim (fun h => absurd (h.1.symm.trans h_45) (by decide)) (fun h => h.2))] at h9; exact h9)

set_option maxHeartbeats 4000000 in
set_option maxRecDepth 100000 in
theorem sp_dangers (l : Launch) (g : fw_G) {I : fw_I} {P : fw_P} {s : Nat → Int32} (hM : MSh P) (hm : mOk s) (x : Int32) : Sp l g kX8_dangers T0 [.ref (g.1 + 688), .int x] (wr I 689 s) P T0 0 0 (qI (aDanX s x) (wr I 689 s) P) := by
  have a688 := at_688
  have a689 := at_689
  obtain ⟨p0, p1, p3, p5, p6, p10, p12, p13⟩ := id hM
  refine Sp.of_V (L := [some (.ref (g.1 + 688)), some (.int x), none, none]) (by decide) (by simp [Value.category]) (Nat.le_of_ble_eq_true rfl) rfl ?_
  refine V_iload_n (i := 1) rfl rfl dX8_dangers_0 rfl ?_
  refine V_callS (n := 1) (sp_isPlayer l g _ P x) o_X8_isPlayer m_X8_39 ⟨by decide, by decide⟩ rfl rfl (by first | exact Nat.le_of_ble_eq_true rfl | simp [Value.category]) (Nat.le_refl _) (Nat.le_refl _) rfl dX8_dangers_1 rfl (kI ?_)
  refine V_if_ne (tgt := 9) dX8_dangers_4 (by decide) rfl (fun h_4 => ?_) (fun h_4 => ?_)
  · obtain ⟨p, hp, rfl⟩ := aPl.nat (bI_nz h_4)
    have hc : (nI p).toNatClampNeg = p := nI_clamp (by omega)
    refine V_aload_n (i := 0) rfl rfl dX8_dangers_9 rfl ?_
    refine V_iload_n (i := 1) rfl rfl dX8_dangers_10 rfl ?_
    refine V_call (n := 1) (sp_isIn l g hM hp) o_X8_isIn m_X8_96 ⟨by decide, by decide⟩ (by assumption) rfl rfl (by first | exact Nat.le_of_ble_eq_true rfl | simp [Value.category]) (Nat.le_refl _) (Nat.le_refl _) rfl dX8_dangers_11 rfl (kI ?_)
    refine V_if_ne (tgt := 20) dX8_dangers_14 (by decide) rfl (fun h_14 => ?_) (fun h_14 => ?_)
    · refine V_iconst (v := 0) (by decide) dX8_dangers_20 rfl ?_
      refine V_istore_n (i := 2) rfl (by decide) rfl dX8_dangers_21 rfl ?_
      refine V_iconst (v := 1) (by decide) dX8_dangers_22 rfl ?_
      refine V_istore_n (i := 3) rfl (by decide) rfl dX8_dangers_23 rfl ?_
      have e0 : aDanX s (nI p) = aDaF s p 6 := by unfold aDanX; rw [if_pos (bI_nz h_4), hc, if_pos (bI_nz h_14)]
      rw [e0]
      exact lp_dangers l g hM hm hp 6 0 rfl
    · refine V_bipush (v := (-4)) (by decide) dX8_dangers_17 rfl ?_
      exact V_ireturn rfl rfl dX8_dangers_19 rfl rfl rfl (qI.of (by unfold aDanX; rw [if_pos (bI_nz h_4), hc, if_neg (bI_z h_14)]))
  · refine V_iconst (v := (-1)) (by decide) dX8_dangers_7 rfl ?_
    exact V_ireturn rfl rfl dX8_dangers_8 rfl rfl rfl (qI.of (by unfold aDanX; rw [if_neg (bI_z h_4)]))
end
section
/-! the invariant of a row -/
def iSn (B : Nat) (s : Nat → Int32) (i : Nat) : Prop := ((sn s i 0 = 0 ∧ sn s i 2 = 0) ∨ ∃ h t, 7 ≤ h ∧ h ≤ 59 ∧ 1 ≤ t ∧ t ≤ 53 ∧ t + 6 ≤ h ∧ h ≤ t + 40 ∧ sn s i 0 = nI h ∧ sn s i 1 = nI t) ∧ ∃ sl, sl ≤ B ∧ sn s i 2 = nI sl
def iPl (s : Nat → Int32) (p : Nat) : Prop := ∃ q n, q ≤ 60 ∧ ro s p 0 = nI q ∧ n < 14 ∧ ro s p 5 = nI n ∧ (ro s p 2 = 0 ↔ q ≠ 60) ∧ (q = 60 → n = 0)
def iBt (s : Nat → Int32) (p k : Nat) : Prop := ∃ z h, 1 ≤ z ∧ z ≤ 40 ∧ s (wi p k + 0) = nI z ∧ h < 16 ∧ s (wi p k + 3) = nI h ∧ Nat.testBit h p = true
def pop4 (h : Nat) : Nat := (if Nat.testBit h 0 then 1 else 0) + (if Nat.testBit h 1 then 1 else 0) + (if Nat.testBit h 2 then 1 else 0) + (if Nat.testBit h 3 then 1 else 0)
/-- how many turns a bite may still be held, at most: whose turn it is m, its holder p, its holders so far h -/
def phi (m p h : Nat) : Nat := (p + 4 - m) % 4 + 3 * (4 - pop4 h)
def cB (s : Nat → Int32) (m t p : Nat) : Nat := ((List.range (aMany s p)).filter (fun k => decide (t ≤ phi m p (s (wi p k + 3)).toNatClampNeg))).length
def home (s : Nat → Int32) : Nat := (if ro s 0 2 = 0 then 0 else 1) + (if ro s 1 2 = 0 then 0 else 1) + (if ro s 2 2 = 0 then 0 else 1) + (if ro s 3 2 = 0 then 0 else 1)
def Inv (B : Nat) (s : Nat → Int32) : Prop :=
  10 ≤ B ∧ B < 1000000 ∧ (∀ p, p < 4 → iPl s p) ∧ (∀ p, p < 4 → ∀ k, k < aMany s p → iBt s p k) ∧ (∀ i, i < 10 → iSn B s i) ∧ (∀ i j, i < 10 → j < 10 → i ≠ j → sn s i 0 = sn s j 0 → sn s i 0 = 0)
  ∧ (∃ a, a ≤ 9 ∧ s 5 = nI a) ∧ s 4 = nI (home s) ∧ ∃ m, m < 4 ∧ s 1 = nI m ∧ (¬ s 4 = 4 → ro s m 2 = 0) ∧ ∀ t, t ≤ 13 → cB s m t 0 + cB s m t 1 + cB s m t 2 + cB s m t 3 ≤ 13 - t
theorem Inv.many {B : Nat} {s : Nat → Int32} (h : Inv B s) {p : Nat} (hp : p < 4) : ro s p 5 = nI (aMany s p) ∧ aMany s p < 14 := by
  obtain ⟨q, n, -, -, h3, h4, -⟩ := h.2.2.1 p hp
  unfold aMany
  rw [h4, nI_clamp (by omega)]
  exact ⟨rfl, h3⟩
theorem Inv.mOk {B : Nat} {s : Nat → Int32} (h : Inv B s) : mOk s := fun p hp => ⟨aMany s p, by have := (h.many hp).2; omega, (h.many hp).1⟩
theorem Inv.now {B : Nat} {s : Nat → Int32} (h : Inv B s) : ∃ m, m < 4 ∧ s 1 = nI m := by
  obtain ⟨m, h1, h2, -⟩ := h.2.2.2.2.2.2.2.2
  exact ⟨m, h1, h2⟩
theorem Inv_T {B : Nat} {s : Nat → Int32} (h : Inv B s) (h4 : ¬ s 4 = 4) {d : Nat} (h1 : 1 ≤ d) (h6 : d ≤ 6) : Inv B (aT s (nI d)) := by
  sorry
theorem Inv_S {B : Nat} {s : Nat → Int32} (h : Inv B s) {p k b : Nat} {c : Int32} (hp : p < 4) (hk : k < aMany s p) (hb : b < 4) (hpb : ¬ p = b) (hr : aRea s p k b c = 0) : Inv B (aS s p k b c) := by
  sorry
theorem Inv_congr {B : Nat} {s t : Nat → Int32} (h : Inv B s) (e : ∀ j, j < 392 → t j = s j) : Inv B t := by
  sorry
end
section
/-- a mutator's end: recorded and the row F, or nothing -/
def MU (I0 : fw_I) (k : Nat) (ok : Prop) (F : Nat → Int32) (I2 : fw_I) : Prop := (ok ∧ ∃ I1, RecP I0 I1 k ∧ I2 = wr I1 689 F) ∨ (¬ ok ∧ I2 = I0)
theorem RecP.mem {I I1 : fw_I} {s : Nat → Int32} {k : Nat} (h : RecP (wr I 689 s) I1 k) : I1 = wr I1 689 s := by
  have h1 := h.1 689 (by decide) (by decide)
  rw [wr_at] at h1
  rw [← h1, wr_self]
abbrev aFm (a b : Int32) : Prop := (7 ≤ a ∧ a ≤ 59) ∧ (1 ≤ b ∧ b ≤ 53) ∧ (6 ≤ a - b ∧ a - b ≤ 40)
def aFrF (s : Nat → Int32) : Nat → Nat → Nat
  | 0, j => j
  | n + 1, j => if 0 < sn s j 0 then aFrF s n (j + 1) else j
theorem aCnt_all {s : Nat → Int32} : ∀ n, (∀ i, i < n → 0 < sn s i 0) → aCntF s n = nI n
  | 0, _ => rfl
  | n + 1, h => by
    show aCntF s n + bI (0 < sn s n 0) = _
    rw [bI_t (h n (by omega)), aCnt_all n (fun i hi => h i (by omega)), nI_1]
def aSnkR (s : Nat → Int32) (a b : Int32) : Int32 := if ¬ aFm a b then -2 else if ¬ aSnAt s a = -5 then -4 else if aCntF s 10 = 10 then -3 else nI (aFrF s 10 0)
abbrev aSnkOk (s : Nat → Int32) (a b : Int32) : Prop := aFm a b ∧ aSnAt s a = -5 ∧ ¬ aCntF s 10 = 10
def aSnkF (s : Nat → Int32) (a b : Int32) : Nat → Int32 :=
  let w := 352 + 4 * aFrF s 10 0
  upd (upd (upd (upd s (w + 0) a) (w + 1) b) (w + 2) 0) (w + 3) 0
def aChaR (s : Nat → Int32) (x t : Int32) : Int32 := if ¬ aSk s x then -1 else if ¬ (1 ≤ t ∧ t ≤ 10) then -2 else sn s x.toNatClampNeg 2
abbrev aChaOk (s : Nat → Int32) (x t : Int32) : Prop := aSk s x ∧ (1 ≤ t ∧ t ≤ 10)
def aChaF (s : Nat → Int32) (k : Nat) (t : Int32) : Nat → Int32 :=
  let s1 := upd s (352 + 4 * k + 2) (if t = 10 then 0 else s (352 + 4 * k + 2) + t)
  upd s1 (352 + 4 * k + 0) (if t = 10 then 0 else s1 (352 + 4 * k + 0))
abbrev aDi (d : Int32) : Prop := 1 ≤ d ∧ d ≤ 6
theorem aDi.nat {d : Int32} (h : aDi d) : ∃ n, 1 ≤ n ∧ n ≤ 6 ∧ d = nI n := by
  obtain ⟨j, h1, h2⟩ := nI_of2 (M := 6) (n := 6) rfl (by rw [i32_lt]; have := i32_le.mp h.1; simp at this ⊢; omega) h.2
  refine ⟨j, ?_, h1, h2⟩
  rcases Nat.eq_zero_or_pos j with h0 | h0
  · subst h0
    rw [h2] at h
    exact absurd h.1 (by decide)
  · exact h0
def aTuE (s : Nat → Int32) (d : Int32) : Int32 := if ¬ aDi d then -2 else if s 4 = 4 then -4 else 0
def aTuR (s : Nat → Int32) (d : Int32) : Int32 := if ¬ aDi d then -2 else if s 4 = 4 then -4 else aTq s d
abbrev aTuOk (s : Nat → Int32) (d : Int32) : Prop := aDi d ∧ ¬ s 4 = 4
def aPyF : Nat → Int32 → (Nat → Int32) → Nat × (Nat → Int32)
  | 0, _, s => (0, s)
  | n + 1, x, s => if s 4 = 4 then (0, s) else ((aPyF n (aDraw x) (aT s (aDice (aDraw x)))).1 + 1, (aPyF n (aDraw x) (aT s (aDice (aDraw x)))).2)
abbrev aPyC (x m : Int32) : Prop := (0 ≤ x ∧ x ≤ 65535) ∧ (1 ≤ m ∧ m ≤ 50)
def aPyR (s : Nat → Int32) (x m : Int32) : Int32 := if ¬ aPyC x m then -2 else if s 4 = 4 then -4 else nI (aPyF m.toNatClampNeg x s).1
abbrev aPyOk (s : Nat → Int32) (x m : Int32) : Prop := aPyC x m ∧ ¬ s 4 = 4
def aSelR (s : Nat → Int32) (x y z c : Int32) : Int32 := if aSeE s x y z c < 0 then aSeE s x y z c else if 0 < aRea s x.toNatClampNeg y.toNatClampNeg z.toNatClampNeg c then -10 - aRea s x.toNatClampNeg y.toNatClampNeg z.toNatClampNeg c else ro (aS s x.toNatClampNeg y.toNatClampNeg z.toNatClampNeg c) z.toNatClampNeg 1 + 1000
abbrev aSelOk (s : Nat → Int32) (x y z c : Int32) : Prop := aSeE s x y z c = 0 ∧ aRea s x.toNatClampNeg y.toNatClampNeg z.toNatClampNeg c = 0
def aSelF (s : Nat → Int32) (x y z c : Int32) : Nat → Int32 := aS s x.toNatClampNeg y.toNatClampNeg z.toNatClampNeg c
theorem aRea_cases (s : Nat → Int32) (p k b : Nat) (c : Int32) : aRea s p k b c = 0 ∨ 0 < aRea s p k b c := by
  unfold aRea
  by_cases h1 : ¬ ro s b 2 = 0
  · rw [if_pos h1]; exact Or.inr (by decide)
  · rw [if_neg h1]
    by_cases h2 : s 7 ≤ s (wi p k + 1)
    · rw [if_pos h2]; exact Or.inr (by decide)
    · rw [if_neg h2]
      by_cases h3 : s (wi p k + 3) >>> (nI b &&& 31) &&& 1 = 1
      · rw [if_pos h3]; exact Or.inr (by decide)
      · rw [if_neg h3]
        by_cases h4 : ro s p 1 - c < - s 6
        · rw [if_pos h4]; exact Or.inr (by decide)
        · rw [if_neg h4]
          by_cases h5 : c < aAsk s (s (wi p k + 0)) b
          · rw [if_pos h5]; exact Or.inr (by decide)
          · rw [if_neg h5]; exact Or.inl rfl
abbrev aSeV (x v : Int32) : Prop := (if x = 2 then 1 else 0) ≤ v ∧ v ≤ (if x = 0 then 9 else if x = 1 then 50 else 3)
abbrev aSt3 (x : Int32) : Prop := 0 ≤ x ∧ x ≤ 2
theorem aSt3.nat {x : Int32} (h : aSt3 x) : ∃ i, i ≤ 2 ∧ x = nI i := by
  obtain ⟨j, h1, h2⟩ := nI_of2 (M := 2) (n := 2) rfl (by rw [i32_lt]; have := i32_le.mp h.1; simp at this ⊢; omega) h.2
  exact ⟨j, h1, h2⟩
def aSetR (s : Nat → Int32) (x v : Int32) : Int32 := if ¬ aSt3 x then -1 else if ¬ aSeV x v then -2 else s (5 + x.toNatClampNeg)
abbrev aSetOk (x v : Int32) : Prop := aSt3 x ∧ aSeV x v
def aSetF (s : Nat → Int32) (x v : Int32) : Nat → Int32 := upd s (5 + x.toNatClampNeg) v
theorem if_or {p : Prop} [Decidable p] {a b c : Int32} (h1 : p → a = c) (h2 : ¬ p → b = c) : (if p then a else b) = c := by
  by_cases h : p
  · rw [if_pos h]; exact h1 h
  · rw [if_neg h]; exact h2 h
theorem kRec {l : Launch} {g : fw_G} {k : fw_M} {T T' : fw_T} {mc ms : Nat} {Q : Option Value → fw_I → fw_P → Prop} {I : fw_I} {P : fw_P} {n u w q : Nat} {L : List (Option Value)} {st : List Value} (h : ∀ I1, RecP I I1 n → V l g k T' mc ms Q T I1 P u w q L st) : ∀ (v : Option Value) (I1 : fw_I) (P1 : fw_P), qV (fun I1 P1 => RecP I I1 n ∧ P1 = P) v I1 P1 → V l g k T' mc ms Q T I1 P1 u w q L (v.toList ++ st) := by
  rintro _ I1 _ ⟨rfl, hr, rfl⟩
  exact h I1 hr
theorem aTuE_ok {s : Nat → Int32} {d : Int32} (h : 0 ≤ aTuE s d) : aTuOk s d := by
  unfold aTuE at h
  by_cases h1 : aDi d
  · rw [if_neg (fun q => q h1)] at h
    by_cases h2 : s 4 = 4
    · rw [if_pos h2] at h; exact absurd h (by decide)
    · exact ⟨h1, h2⟩
  · rw [if_pos h1] at h; exact absurd h (by decide)
theorem aTuE_no {s : Nat → Int32} {d : Int32} (h : ¬ 0 ≤ aTuE s d) : ¬ aTuOk s d ∧ aTuR s d = aTuE s d := by
  unfold aTuE at h
  unfold aTuR aTuE
  by_cases h1 : aDi d
  · have hn : ¬ ¬ aDi d := fun q => q h1
    rw [if_neg hn] at h
    rw [if_neg hn, if_neg hn]
    by_cases h2 : s 4 = 4
    · rw [if_pos h2, if_pos h2]; exact ⟨fun q => q.2 h2, rfl⟩
    · rw [if_neg h2] at h; exact absurd (by decide) h
  · rw [if_pos h1, if_pos h1]; exact ⟨fun q => h1 q.1, rfl⟩
theorem aTuR_ok {s : Nat → Int32} {d : Int32} (h : aTuOk s d) : aTuR s d = aTq s d := by
  unfold aTuR
  rw [if_neg (fun q => q h.1), if_neg h.2]
theorem aDraw_in {x : Int32} (h : 0 ≤ x ∧ x ≤ 65535) : 0 ≤ aDraw x ∧ aDraw x ≤ 65535 := by
  sorry
theorem aDice_in {x : Int32} (h : 0 ≤ x ∧ x ≤ 65535) : aDi (aDice x) := by
  sorry
set_option maxHeartbeats 4000000 in
set_option maxRecDepth 100000 in
theorem lp_snake68 (l : Launch) (g : fw_G) {I : fw_I} {P : fw_P} {s : Nat → Int32} (hM : MSh P) {k : Nat} (hk5 : k ≤ 5) (hk : I 688 2 = nI k) (a b : Int32) {I1 : fw_I} (hr : RecP (wr I 689 s) I1 k) (hok : aSnkOk s a b) (hR : aSnkR s a b = nI (aFrF s 10 0)) : ∀ (n j : Nat), j + n = 10 → (∀ i, i < j → 0 < sn s i 0) → aFrF s n j = aFrF s 10 0 → V l g kX8_snake T0 0 0 (qJ (fun r I2 P2 => r = aSnkR s a b ∧ P2 = P ∧ MU (wr I 689 s) k (aSnkOk s a b) (aSnkF s a b) I2)) T0 (wr I1 689 s) P 0 0 68 [some (.ref (g.1 + 688)), some (.int a), some (.int b), some (.int (nI j)), none] [] := by
  have a688 := at_688
  have a689 := at_689
  obtain ⟨p0, p1, p3, p5, p6, p10, p12, p13⟩ := id hM
  intro n
  induction n with
  | zero =>
    intro j hj hall hF
    obtain rfl : j = 10 := by omega
    exact absurd (aCnt_all 10 hall) hok.2.2
  | succ n ih =>
    intro j hj hall hF
    have hj10 : j < 10 := by omega
    have hcj : (nI j).toNatClampNeg = j := nI_clamp (by omega)
    refine V_aload_n (i := 0) rfl rfl dX8_snake_68 rfl ?_
    refine V_iload_n (i := 3) rfl rfl dX8_snake_69 rfl ?_
    refine V_call (n := 1) (sp_isSnake l g hM (nI j)) o_X8_isSnake m_X8_113 ⟨by decide, by decide⟩ (by assumption) rfl rfl (by first | exact Nat.le_of_ble_eq_true rfl | simp [Value.category]) (Nat.le_refl _) (Nat.le_refl _) rfl dX8_snake_70 rfl (kI ?_)
    refine V_if_eq (tgt := 82) dX8_snake_73 (by decide) rfl (fun h_73 => ?_) (fun h_73 => ?_)
    · have hfr : j = aFrF s 10 0 := by
        rw [← hF]
        show j = if 0 < sn s j 0 then _ else j
        rw [if_neg (fun h => bI_z h_73 ⟨⟨nI_pos' (by omega), nI_le (b := 9) (by omega) (by decide)⟩, hcj.symm ▸ h⟩)]
      refine V_sipush (v := 352) (by decide) dX8_snake_82 rfl ?_
      refine V_iconst (v := 4) (by decide) dX8_snake_85 rfl ?_
      refine V_iload_n (i := 3) rfl rfl dX8_snake_86 rfl ?_
      refine V_imul dX8_snake_87 rfl ?_
      refine V_iadd dX8_snake_88 rfl ?_
      refine V_istore (i := 4) (by decide) rfl dX8_snake_89 rfl ?_
      refine V_aload_n (i := 0) rfl rfl dX8_snake_91 rfl ?_
      refine V_getr (kf := 0) C8 (by decide) l_X8_7 (by assumption) rfl (by assumption) dX8_snake_92 rfl ?_
      refine V_iload (i := 4) rfl dX8_snake_95 rfl ?_
      refine V_iconst (v := 0) (by decide) dX8_snake_97 rfl ?_
      refine V_iadd dX8_snake_98 rfl ?_
      refine V_iload_n (i := 1) rfl rfl dX8_snake_99 rfl ?_
      refine V_iast9 (by assumption) (ix_sn hj10 (by decide : 0 < 4)) dX8_snake_100 rfl ?_
      refine V_aload_n (i := 0) rfl rfl dX8_snake_101 rfl ?_
      refine V_getr (kf := 0) C8 (by decide) l_X8_7 (by assumption) rfl (by assumption) dX8_snake_102 rfl ?_
      refine V_iload (i := 4) rfl dX8_snake_105 rfl ?_
      refine V_iconst (v := 1) (by decide) dX8_snake_107 rfl ?_
      refine V_iadd dX8_snake_108 rfl ?_
      refine V_iload_n (i := 2) rfl rfl dX8_snake_109 rfl ?_
      refine V_iast9 (by assumption) (ix_sn hj10 (by decide : 1 < 4)) dX8_snake_110 rfl ?_
      refine V_aload_n (i := 0) rfl rfl dX8_snake_111 rfl ?_
      refine V_getr (kf := 0) C8 (by decide) l_X8_7 (by assumption) rfl (by assumption) dX8_snake_112 rfl ?_
      refine V_iload (i := 4) rfl dX8_snake_115 rfl ?_
      refine V_iconst (v := 2) (by decide) dX8_snake_117 rfl ?_
      refine V_iadd dX8_snake_118 rfl ?_
      refine V_iconst (v := 0) (by decide) dX8_snake_119 rfl ?_
      refine V_iast9 (by assumption) (ix_sn hj10 (by decide : 2 < 4)) dX8_snake_120 rfl ?_
      refine V_aload_n (i := 0) rfl rfl dX8_snake_121 rfl ?_
      refine V_getr (kf := 0) C8 (by decide) l_X8_7 (by assumption) rfl (by assumption) dX8_snake_122 rfl ?_
      refine V_iload (i := 4) rfl dX8_snake_125 rfl ?_
      refine V_iconst (v := 3) (by decide) dX8_snake_127 rfl ?_
      refine V_iadd dX8_snake_128 rfl ?_
      refine V_iconst (v := 0) (by decide) dX8_snake_129 rfl ?_
      refine V_iast9 (by assumption) (ix_sn hj10 (by decide : 3 < 4)) dX8_snake_130 rfl ?_
      refine V_iload_n (i := 3) rfl rfl dX8_snake_131 rfl ?_
      exact V_ireturn rfl rfl dX8_snake_132 rfl rfl rfl (⟨_, rfl, by rw [hR, hfr], rfl, Or.inl ⟨hok, I1, hr, by unfold aSnkF; rw [← hfr]⟩⟩)
    · refine V_iinc1 (i := 3) rfl (by decide) rfl dX8_snake_76 rfl ?_
      refine V_goto (tgt := 68) dX8_snake_79 (by decide) ?_
      have hp := (bI_nz h_73).2
      rw [hcj] at hp
      have h9 := ih (j + 1) (by omega) (fun i hi => (by rcases Nat.lt_succ_iff_lt_or_eq.mp hi with h | h; exact hall i h; rw [h]; exact hp)) (by rw [← hF]; show _ = if 0 < sn s j 0 then aFrF s n (j + 1) else j; rw [if_pos hp])
      rw [← nI_1] at h9
      exact h9

set_option maxHeartbeats 4000000 in
set_option maxRecDepth 100000 in
theorem sp_snake (l : Launch) (g : fw_G) {I : fw_I} {P : fw_P} {s : Nat → Int32} (hM : MSh P) {k : Nat} (hk5 : k ≤ 5) (hk : I 688 2 = nI k) (a b : Int32) : Sp l g kX8_snake T0 [.ref (g.1 + 688), .int a, .int b] (wr I 689 s) P T0 0 0 (qJ (fun r I2 P2 => r = aSnkR s a b ∧ P2 = P ∧ MU (wr I 689 s) k (aSnkOk s a b) (aSnkF s a b) I2)) := by
  have a688 := at_688
  have a689 := at_689
  obtain ⟨p0, p1, p3, p5, p6, p10, p12, p13⟩ := id hM
  refine Sp.of_V (L := [some (.ref (g.1 + 688)), some (.int a), some (.int b), none, none]) (by decide) (by simp [Value.category]) (Nat.le_of_ble_eq_true rfl) rfl ?_
  refine V_iload_n (i := 1) rfl rfl dX8_snake_0 rfl ?_
  refine V_bipush (v := 7) (by decide) dX8_snake_1 rfl ?_
  refine V_bipush (v := 59) (by decide) dX8_snake_3 rfl ?_
  refine V_callS (n := 3) (sp_in l g _ P a 7 59) o_X8_in m_X8_35 ⟨by decide, by decide⟩ rfl rfl (by first | exact Nat.le_of_ble_eq_true rfl | simp [Value.category]) (Nat.le_refl _) (Nat.le_refl _) rfl dX8_snake_5 rfl (kI ?_)
  refine V_if_eq (tgt := 34) dX8_snake_8 (by decide) rfl (fun h_8 => ?_) (fun h_8 => ?_)
  · refine V_bipush (v := (-2)) (by decide) dX8_snake_34 rfl ?_
    exact V_ireturn rfl rfl dX8_snake_36 rfl rfl rfl (by first | (have hn : ¬ aFm a b := fun h => bI_z h_8 h.1; exact ⟨_, rfl, by unfold aSnkR; rw [if_pos hn], rfl, Or.inr ⟨fun h => hn h.1, rfl⟩⟩) | (have hn : ¬ aFm a b := fun h => bI_z h_18 h.2.1; exact ⟨_, rfl, by unfold aSnkR; rw [if_pos hn], rfl, Or.inr ⟨fun h => hn h.1, rfl⟩⟩) | (have hn : ¬ aFm a b := fun h => bI_z h_31 h.2.2; exact ⟨_, rfl, by unfold aSnkR; rw [if_pos hn], rfl, Or.inr ⟨fun h => hn h.1, rfl⟩⟩))
  · refine V_iload_n (i := 2) rfl rfl dX8_snake_11 rfl ?_
    refine V_iconst (v := 1) (by decide) dX8_snake_12 rfl ?_
    refine V_bipush (v := 53) (by decide) dX8_snake_13 rfl ?_
    refine V_callS (n := 3) (sp_in l g _ P b 1 53) o_X8_in m_X8_35 ⟨by decide, by decide⟩ rfl rfl (by first | exact Nat.le_of_ble_eq_true rfl | simp [Value.category]) (Nat.le_refl _) (Nat.le_refl _) rfl dX8_snake_15 rfl (kI ?_)
    refine V_if_eq (tgt := 34) dX8_snake_18 (by decide) rfl (fun h_18 => ?_) (fun h_18 => ?_)
    · refine V_bipush (v := (-2)) (by decide) dX8_snake_34 rfl ?_
      exact V_ireturn rfl rfl dX8_snake_36 rfl rfl rfl (by first | (have hn : ¬ aFm a b := fun h => bI_z h_8 h.1; exact ⟨_, rfl, by unfold aSnkR; rw [if_pos hn], rfl, Or.inr ⟨fun h => hn h.1, rfl⟩⟩) | (have hn : ¬ aFm a b := fun h => bI_z h_18 h.2.1; exact ⟨_, rfl, by unfold aSnkR; rw [if_pos hn], rfl, Or.inr ⟨fun h => hn h.1, rfl⟩⟩) | (have hn : ¬ aFm a b := fun h => bI_z h_31 h.2.2; exact ⟨_, rfl, by unfold aSnkR; rw [if_pos hn], rfl, Or.inr ⟨fun h => hn h.1, rfl⟩⟩))
    · refine V_iload_n (i := 1) rfl rfl dX8_snake_21 rfl ?_
      refine V_iload_n (i := 2) rfl rfl dX8_snake_22 rfl ?_
      refine V_isub dX8_snake_23 rfl ?_
      refine V_bipush (v := 6) (by decide) dX8_snake_24 rfl ?_
      refine V_bipush (v := 40) (by decide) dX8_snake_26 rfl ?_
      refine V_callS (n := 3) (sp_in l g _ P (a - b) 6 40) o_X8_in m_X8_35 ⟨by decide, by decide⟩ rfl rfl (by first | exact Nat.le_of_ble_eq_true rfl | simp [Value.category]) (Nat.le_refl _) (Nat.le_refl _) rfl dX8_snake_28 rfl (kI ?_)
      refine V_if_ne (tgt := 37) dX8_snake_31 (by decide) rfl (fun h_31 => ?_) (fun h_31 => ?_)
      · refine V_aload_n (i := 0) rfl rfl dX8_snake_37 rfl ?_
        refine V_iload_n (i := 1) rfl rfl dX8_snake_38 rfl ?_
        refine V_call (n := 1) (sp_snakeAt l g hM a) o_X8_snakeAt m_X8_65 ⟨by decide, by decide⟩ (by assumption) rfl rfl (by first | exact Nat.le_of_ble_eq_true rfl | simp [Value.category]) (Nat.le_refl _) (Nat.le_refl _) rfl dX8_snake_39 rfl (kI ?_)
        refine V_bipush (v := (-5)) (by decide) dX8_snake_42 rfl ?_
        refine V_icmp_eq (tgt := 50) dX8_snake_44 (by decide) rfl (fun h_44 => ?_) (fun h_44 => ?_)
        · refine V_aload_n (i := 0) rfl rfl dX8_snake_50 rfl ?_
          refine V_call (n := 0) (sp_snakes l g hM) o_X8_snakes m_X8_106 ⟨by decide, by decide⟩ (by assumption) rfl rfl (by first | exact Nat.le_of_ble_eq_true rfl | simp [Value.category]) (Nat.le_refl _) (Nat.le_refl _) rfl dX8_snake_51 rfl (kI ?_)
          refine V_bipush (v := 10) (by decide) dX8_snake_54 rfl ?_
          refine V_icmp_ne (tgt := 62) dX8_snake_56 (by decide) rfl (fun h_56 => ?_) (fun h_56 => ?_)
          · refine V_aload_n (i := 0) rfl rfl dX8_snake_62 rfl ?_
            refine V_call (n := 0) (sp_record (I := wr I 689 s) l g hM hk5 hk) o_X8_record m_X8_110 ⟨by decide, by decide⟩ (by assumption) rfl rfl (by first | exact Nat.le_of_ble_eq_true rfl | simp [Value.category]) (Nat.le_refl _) (Nat.le_refl _) rfl dX8_snake_63 rfl (kRec (fun I63 hr63 => ?_))
            rw [hr63.mem]
            refine V_iconst (v := 0) (by decide) dX8_snake_66 rfl ?_
            refine V_istore_n (i := 3) rfl (by decide) rfl dX8_snake_67 rfl ?_
            have hf := (⟨bI_nz h_8, bI_nz h_18, bI_nz h_31⟩ : aFm a b)
            exact lp_snake68 l g hM hk5 hk a b hr63 ⟨hf, h_44, h_56⟩ (by unfold aSnkR; rw [if_neg (fun h => h hf), if_neg (fun h => h h_44), if_neg h_56]) 10 0 rfl (fun i hi => absurd hi (Nat.not_lt_zero i)) rfl
          · refine V_bipush (v := (-3)) (by decide) dX8_snake_59 rfl ?_
            exact V_ireturn rfl rfl dX8_snake_61 rfl rfl rfl (by have hf := (⟨bI_nz h_8, bI_nz h_18, bI_nz h_31⟩ : aFm a b); exact ⟨_, rfl, by unfold aSnkR; rw [if_neg (fun h => h hf), if_neg (fun h => h h_44), if_pos h_56], rfl, Or.inr ⟨fun h => h.2.2 h_56, rfl⟩⟩)
        · refine V_bipush (v := (-4)) (by decide) dX8_snake_47 rfl ?_
          exact V_ireturn rfl rfl dX8_snake_49 rfl rfl rfl (by have hf := (⟨bI_nz h_8, bI_nz h_18, bI_nz h_31⟩ : aFm a b); exact ⟨_, rfl, by unfold aSnkR; rw [if_neg (fun h => h hf), if_pos h_44], rfl, Or.inr ⟨fun h => h_44 h.2.1, rfl⟩⟩)
      · refine V_bipush (v := (-2)) (by decide) dX8_snake_34 rfl ?_
        exact V_ireturn rfl rfl dX8_snake_36 rfl rfl rfl (by first | (have hn : ¬ aFm a b := fun h => bI_z h_8 h.1; exact ⟨_, rfl, by unfold aSnkR; rw [if_pos hn], rfl, Or.inr ⟨fun h => hn h.1, rfl⟩⟩) | (have hn : ¬ aFm a b := fun h => bI_z h_18 h.2.1; exact ⟨_, rfl, by unfold aSnkR; rw [if_pos hn], rfl, Or.inr ⟨fun h => hn h.1, rfl⟩⟩) | (have hn : ¬ aFm a b := fun h => bI_z h_31 h.2.2; exact ⟨_, rfl, by unfold aSnkR; rw [if_pos hn], rfl, Or.inr ⟨fun h => hn h.1, rfl⟩⟩))

set_option maxHeartbeats 4000000 in
set_option maxRecDepth 100000 in
theorem sp_charm (l : Launch) (g : fw_G) {I : fw_I} {P : fw_P} {s : Nat → Int32} (hM : MSh P) {k : Nat} (hk5 : k ≤ 5) (hk : I 688 2 = nI k) (x t : Int32) : Sp l g kX8_charm T0 [.ref (g.1 + 688), .int x, .int t] (wr I 689 s) P T0 0 0 (qJ (fun r I2 P2 => r = aChaR s x t ∧ P2 = P ∧ MU (wr I 689 s) k (aChaOk s x t) (aChaF s x.toNatClampNeg t) I2)) := by
  have a688 := at_688
  have a689 := at_689
  obtain ⟨p0, p1, p3, p5, p6, p10, p12, p13⟩ := id hM
  refine Sp.of_V (L := [some (.ref (g.1 + 688)), some (.int x), some (.int t), none, none]) (by decide) (by simp [Value.category]) (Nat.le_of_ble_eq_true rfl) rfl ?_
  refine V_aload_n (i := 0) rfl rfl dX8_charm_0 rfl ?_
  refine V_iload_n (i := 1) rfl rfl dX8_charm_1 rfl ?_
  refine V_call (n := 1) (sp_isSnake l g hM x) o_X8_isSnake m_X8_113 ⟨by decide, by decide⟩ (by assumption) rfl rfl (by first | exact Nat.le_of_ble_eq_true rfl | simp [Value.category]) (Nat.le_refl _) (Nat.le_refl _) rfl dX8_charm_2 rfl (kI ?_)
  refine V_if_ne (tgt := 10) dX8_charm_5 (by decide) rfl (fun h_5 => ?_) (fun h_5 => ?_)
  · refine V_iload_n (i := 2) rfl rfl dX8_charm_10 rfl ?_
    refine V_iconst (v := 1) (by decide) dX8_charm_11 rfl ?_
    refine V_bipush (v := 10) (by decide) dX8_charm_12 rfl ?_
    refine V_callS (n := 3) (sp_in l g _ P t 1 10) o_X8_in m_X8_35 ⟨by decide, by decide⟩ rfl rfl (by first | exact Nat.le_of_ble_eq_true rfl | simp [Value.category]) (Nat.le_refl _) (Nat.le_refl _) rfl dX8_charm_14 rfl (kI ?_)
    refine V_if_ne (tgt := 23) dX8_charm_17 (by decide) rfl (fun h_17 => ?_) (fun h_17 => ?_)
    · refine V_aload_n (i := 0) rfl rfl dX8_charm_23 rfl ?_
      refine V_call (n := 0) (sp_record (I := wr I 689 s) l g hM hk5 hk) o_X8_record m_X8_110 ⟨by decide, by decide⟩ (by assumption) rfl rfl (by first | exact Nat.le_of_ble_eq_true rfl | simp [Value.category]) (Nat.le_refl _) (Nat.le_refl _) rfl dX8_charm_24 rfl (kRec (fun I24 hr24 => ?_))
      rw [hr24.mem]
      have hsk := bI_nz h_5
      obtain ⟨j, hj, rfl⟩ := nI_le9 hsk.1
      have hcj : (nI j).toNatClampNeg = j := nI_clamp (by omega)
      refine V_sipush (v := 352) (by decide) dX8_charm_27 rfl ?_
      refine V_iconst (v := 4) (by decide) dX8_charm_30 rfl ?_
      refine V_iload_n (i := 1) rfl rfl dX8_charm_31 rfl ?_
      refine V_imul dX8_charm_32 rfl ?_
      refine V_iadd dX8_charm_33 rfl ?_
      refine V_istore_n (i := 3) rfl (by decide) rfl dX8_charm_34 rfl ?_
      refine V_aload_n (i := 0) rfl rfl dX8_charm_35 rfl ?_
      refine V_getr (kf := 0) C8 (by decide) l_X8_7 (by assumption) rfl (by assumption) dX8_charm_36 rfl ?_
      refine V_iload_n (i := 3) rfl rfl dX8_charm_39 rfl ?_
      refine V_iconst (v := 2) (by decide) dX8_charm_40 rfl ?_
      refine V_iadd dX8_charm_41 rfl ?_
      refine V_iald9 (by assumption) (ix_sn hj (by decide : 2 < 4)) dX8_charm_42 rfl ?_
      refine V_istore (i := 4) (by decide) rfl dX8_charm_43 rfl ?_
      refine V_aload_n (i := 0) rfl rfl dX8_charm_45 rfl ?_
      refine V_getr (kf := 0) C8 (by decide) l_X8_7 (by assumption) rfl (by assumption) dX8_charm_46 rfl ?_
      refine V_iload_n (i := 3) rfl rfl dX8_charm_49 rfl ?_
      refine V_iconst (v := 2) (by decide) dX8_charm_50 rfl ?_
      refine V_iadd dX8_charm_51 rfl ?_
      refine V_iload_n (i := 2) rfl rfl dX8_charm_52 rfl ?_
      refine V_bipush (v := 10) (by decide) dX8_charm_53 rfl ?_
      refine V_icmp_ne (tgt := 62) dX8_charm_55 (by decide) rfl (fun h_55 => ?_) (fun h_55 => ?_)
      · refine V_iload (i := 4) rfl dX8_charm_62 rfl ?_
        refine V_iload_n (i := 2) rfl rfl dX8_charm_64 rfl ?_
        refine V_iadd dX8_charm_65 rfl ?_
        refine V_iast9 (by assumption) (ix_sn hj (by decide : 2 < 4)) dX8_charm_66 rfl ?_
        refine V_aload_n (i := 0) rfl rfl dX8_charm_67 rfl ?_
        refine V_getr (kf := 0) C8 (by decide) l_X8_7 (by assumption) rfl (by assumption) dX8_charm_68 rfl ?_
        refine V_iload_n (i := 3) rfl rfl dX8_charm_71 rfl ?_
        refine V_iconst (v := 0) (by decide) dX8_charm_72 rfl ?_
        refine V_iadd dX8_charm_73 rfl ?_
        refine V_iload_n (i := 2) rfl rfl dX8_charm_74 rfl ?_
        refine V_bipush (v := 10) (by decide) dX8_charm_75 rfl ?_
        refine V_icmp_ne (tgt := 84) dX8_charm_77 (by decide) rfl (fun h_77 => ?_) (fun h_77 => ?_)
        · refine V_aload_n (i := 0) rfl rfl dX8_charm_84 rfl ?_
          refine V_getr (kf := 0) C8 (by decide) l_X8_7 (by assumption) rfl (by assumption) dX8_charm_85 rfl ?_
          refine V_iload_n (i := 3) rfl rfl dX8_charm_88 rfl ?_
          refine V_iconst (v := 0) (by decide) dX8_charm_89 rfl ?_
          refine V_iadd dX8_charm_90 rfl ?_
          refine V_iald9 (by assumption) (ix_sn hj (by decide : 0 < 4)) dX8_charm_91 rfl ?_
          refine V_iast9 (by assumption) (ix_sn hj (by decide : 0 < 4)) dX8_charm_92 rfl ?_
          refine V_iload (i := 4) rfl dX8_charm_93 rfl ?_
          exact V_ireturn rfl rfl dX8_charm_95 rfl rfl rfl (⟨_, rfl, by unfold aChaR; rw [if_neg (fun h => h hsk), if_neg (fun h => h (bI_nz h_17)), hcj]; rfl, rfl, Or.inl ⟨⟨hsk, bI_nz h_17⟩, _, hr24, by first | exact absurd h_77 h_55 | exact absurd h_55 h_77 | (rw [hcj]; unfold aChaF; simp only [if_neg h_55]; done) | (rw [hcj]; unfold aChaF; simp only [if_pos h_55]; done)⟩⟩)
        · refine V_iconst (v := 0) (by decide) dX8_charm_80 rfl ?_
          refine V_goto (tgt := 92) dX8_charm_81 (by decide) ?_
          refine V_iast9 (by assumption) (ix_sn hj (by decide : 0 < 4)) dX8_charm_92 rfl ?_
          refine V_iload (i := 4) rfl dX8_charm_93 rfl ?_
          exact V_ireturn rfl rfl dX8_charm_95 rfl rfl rfl (⟨_, rfl, by unfold aChaR; rw [if_neg (fun h => h hsk), if_neg (fun h => h (bI_nz h_17)), hcj]; rfl, rfl, Or.inl ⟨⟨hsk, bI_nz h_17⟩, _, hr24, by first | exact absurd h_77 h_55 | exact absurd h_55 h_77 | (rw [hcj]; unfold aChaF; simp only [if_neg h_55]; done) | (rw [hcj]; unfold aChaF; simp only [if_pos h_55]; done)⟩⟩)
      · refine V_iconst (v := 0) (by decide) dX8_charm_58 rfl ?_
        refine V_goto (tgt := 66) dX8_charm_59 (by decide) ?_
        refine V_iast9 (by assumption) (ix_sn hj (by decide : 2 < 4)) dX8_charm_66 rfl ?_
        refine V_aload_n (i := 0) rfl rfl dX8_charm_67 rfl ?_
        refine V_getr (kf := 0) C8 (by decide) l_X8_7 (by assumption) rfl (by assumption) dX8_charm_68 rfl ?_
        refine V_iload_n (i := 3) rfl rfl dX8_charm_71 rfl ?_
        refine V_iconst (v := 0) (by decide) dX8_charm_72 rfl ?_
        refine V_iadd dX8_charm_73 rfl ?_
        refine V_iload_n (i := 2) rfl rfl dX8_charm_74 rfl ?_
        refine V_bipush (v := 10) (by decide) dX8_charm_75 rfl ?_
        refine V_icmp_ne (tgt := 84) dX8_charm_77 (by decide) rfl (fun h_77 => ?_) (fun h_77 => ?_)
        · refine V_aload_n (i := 0) rfl rfl dX8_charm_84 rfl ?_
          refine V_getr (kf := 0) C8 (by decide) l_X8_7 (by assumption) rfl (by assumption) dX8_charm_85 rfl ?_
          refine V_iload_n (i := 3) rfl rfl dX8_charm_88 rfl ?_
          refine V_iconst (v := 0) (by decide) dX8_charm_89 rfl ?_
          refine V_iadd dX8_charm_90 rfl ?_
          refine V_iald9 (by assumption) (ix_sn hj (by decide : 0 < 4)) dX8_charm_91 rfl ?_
          refine V_iast9 (by assumption) (ix_sn hj (by decide : 0 < 4)) dX8_charm_92 rfl ?_
          refine V_iload (i := 4) rfl dX8_charm_93 rfl ?_
          exact V_ireturn rfl rfl dX8_charm_95 rfl rfl rfl (⟨_, rfl, by unfold aChaR; rw [if_neg (fun h => h hsk), if_neg (fun h => h (bI_nz h_17)), hcj]; rfl, rfl, Or.inl ⟨⟨hsk, bI_nz h_17⟩, _, hr24, by first | exact absurd h_77 h_55 | exact absurd h_55 h_77 | (rw [hcj]; unfold aChaF; simp only [if_neg h_55]; done) | (rw [hcj]; unfold aChaF; simp only [if_pos h_55]; done)⟩⟩)
        · refine V_iconst (v := 0) (by decide) dX8_charm_80 rfl ?_
          refine V_goto (tgt := 92) dX8_charm_81 (by decide) ?_
          refine V_iast9 (by assumption) (ix_sn hj (by decide : 0 < 4)) dX8_charm_92 rfl ?_
          refine V_iload (i := 4) rfl dX8_charm_93 rfl ?_
          exact V_ireturn rfl rfl dX8_charm_95 rfl rfl rfl (⟨_, rfl, by unfold aChaR; rw [if_neg (fun h => h hsk), if_neg (fun h => h (bI_nz h_17)), hcj]; rfl, rfl, Or.inl ⟨⟨hsk, bI_nz h_17⟩, _, hr24, by first | exact absurd h_77 h_55 | exact absurd h_55 h_77 | (rw [hcj]; unfold aChaF; simp only [if_neg h_55]; done) | (rw [hcj]; unfold aChaF; simp only [if_pos h_55]; done)⟩⟩)
    · refine V_bipush (v := (-2)) (by decide) dX8_charm_20 rfl ?_
      exact V_ireturn rfl rfl dX8_charm_22 rfl rfl rfl (⟨_, rfl, by unfold aChaR; rw [if_neg (fun h => h (bI_nz h_5)), if_pos (bI_z h_17)], rfl, Or.inr ⟨fun h => bI_z h_17 h.2, rfl⟩⟩)
  · refine V_iconst (v := (-1)) (by decide) dX8_charm_8 rfl ?_
    exact V_ireturn rfl rfl dX8_charm_9 rfl rfl rfl (⟨_, rfl, by unfold aChaR; rw [if_pos (bI_z h_5)], rfl, Or.inr ⟨fun h => bI_z h_5 h.1, rfl⟩⟩)

set_option maxHeartbeats 4000000 in
set_option maxRecDepth 100000 in
theorem sp_turnError (l : Launch) (g : fw_G) {I : fw_I} {P : fw_P} {s : Nat → Int32} (hM : MSh P) (d : Int32) : Sp l g kX8_turnError T0 [.ref (g.1 + 688), .int d] (wr I 689 s) P T0 0 0 (qI (aTuE s d) (wr I 689 s) P) := by
  have a688 := at_688
  have a689 := at_689
  obtain ⟨p0, p1, p3, p5, p6, p10, p12, p13⟩ := id hM
  refine Sp.of_V (L := [some (.ref (g.1 + 688)), some (.int d)]) (by decide) (by simp [Value.category]) (Nat.le_of_ble_eq_true rfl) rfl ?_
  refine V_iload_n (i := 1) rfl rfl dX8_turnError_0 rfl ?_
  refine V_iconst (v := 1) (by decide) dX8_turnError_1 rfl ?_
  refine V_bipush (v := 6) (by decide) dX8_turnError_2 rfl ?_
  refine V_callS (n := 3) (sp_in l g _ P d 1 6) o_X8_in m_X8_35 ⟨by decide, by decide⟩ rfl rfl (by first | exact Nat.le_of_ble_eq_true rfl | simp [Value.category]) (Nat.le_refl _) (Nat.le_refl _) rfl dX8_turnError_4 rfl (kI ?_)
  refine V_if_ne (tgt := 15) dX8_turnError_7 (by decide) rfl (fun h_7 => ?_) (fun h_7 => ?_)
  · refine V_aload_n (i := 0) rfl rfl dX8_turnError_15 rfl ?_
    refine V_call (n := 0) (sp_isOver l g hM) o_X8_isOver m_X8_92 ⟨by decide, by decide⟩ (by assumption) rfl rfl (by first | exact Nat.le_of_ble_eq_true rfl | simp [Value.category]) (Nat.le_refl _) (Nat.le_refl _) rfl dX8_turnError_16 rfl (kI ?_)
    refine V_if_eq (tgt := 27) dX8_turnError_19 (by decide) rfl (fun h_19 => ?_) (fun h_19 => ?_)
    · refine V_iconst (v := 0) (by decide) dX8_turnError_27 rfl ?_
      exact V_ireturn rfl rfl dX8_turnError_28 rfl rfl rfl (qI.of (by unfold aTuE; first | rw [if_pos (bI_z h_7)] | (rw [if_neg (fun h => h (bI_nz h_7))]; first | rw [if_pos (bI_nz h_19)] | rw [if_neg (bI_z h_19)])))
    · refine V_bipush (v := (-4)) (by decide) dX8_turnError_22 rfl ?_
      refine V_goto (tgt := 28) dX8_turnError_24 (by decide) ?_
      exact V_ireturn rfl rfl dX8_turnError_28 rfl rfl rfl (qI.of (by unfold aTuE; first | rw [if_pos (bI_z h_7)] | (rw [if_neg (fun h => h (bI_nz h_7))]; first | rw [if_pos (bI_nz h_19)] | rw [if_neg (bI_z h_19)])))
  · refine V_bipush (v := (-2)) (by decide) dX8_turnError_10 rfl ?_
    refine V_goto (tgt := 28) dX8_turnError_12 (by decide) ?_
    exact V_ireturn rfl rfl dX8_turnError_28 rfl rfl rfl (qI.of (by unfold aTuE; first | rw [if_pos (bI_z h_7)] | (rw [if_neg (fun h => h (bI_nz h_7))]; first | rw [if_pos (bI_nz h_19)] | rw [if_neg (bI_z h_19)])))

set_option maxHeartbeats 4000000 in
set_option maxRecDepth 100000 in
theorem sp_turn (l : Launch) (g : fw_G) {I : fw_I} {P : fw_P} {s : Nat → Int32} (hM : MSh P) {k : Nat} (hk5 : k ≤ 5) (hk : I 688 2 = nI k) (hm : mOk s) (hn : ∃ p, p < 4 ∧ s 1 = nI p) (d : Int32) : Sp l g kX8_turn T0 [.ref (g.1 + 688), .int d] (wr I 689 s) P T0 0 0 (qJ (fun r I2 P2 => r = aTuR s d ∧ P2 = P ∧ MU (wr I 689 s) k (aTuOk s d) (aT s d) I2)) := by
  have a688 := at_688
  have a689 := at_689
  obtain ⟨p0, p1, p3, p5, p6, p10, p12, p13⟩ := id hM
  refine Sp.of_V (L := [some (.ref (g.1 + 688)), some (.int d), none]) (by decide) (by simp [Value.category]) (Nat.le_of_ble_eq_true rfl) rfl ?_
  refine V_aload_n (i := 0) rfl rfl dX8_turn_0 rfl ?_
  refine V_iload_n (i := 1) rfl rfl dX8_turn_1 rfl ?_
  refine V_call (n := 1) (sp_turnError l g hM d) o_X8_turnError m_X8_116 ⟨by decide, by decide⟩ (by assumption) rfl rfl (by first | exact Nat.le_of_ble_eq_true rfl | simp [Value.category]) (Nat.le_refl _) (Nat.le_refl _) rfl dX8_turn_2 rfl (kI ?_)
  refine V_istore_n (i := 2) rfl (by decide) rfl dX8_turn_5 rfl ?_
  refine V_iload_n (i := 2) rfl rfl dX8_turn_6 rfl ?_
  refine V_if_ge (tgt := 12) dX8_turn_7 (by decide) rfl (fun h_7 => ?_) (fun h_7 => ?_)
  · refine V_aload_n (i := 0) rfl rfl dX8_turn_12 rfl ?_
    refine V_call (n := 0) (sp_record (I := wr I 689 s) l g hM hk5 hk) o_X8_record m_X8_110 ⟨by decide, by decide⟩ (by assumption) rfl rfl (by first | exact Nat.le_of_ble_eq_true rfl | simp [Value.category]) (Nat.le_refl _) (Nat.le_refl _) rfl dX8_turn_13 rfl (kRec (fun I13 hr13 => ?_))
    rw [hr13.mem]
    refine V_aload_n (i := 0) rfl rfl dX8_turn_16 rfl ?_
    refine V_iload_n (i := 1) rfl rfl dX8_turn_17 rfl ?_
    obtain ⟨p, hp, hs⟩ := hn
    refine V_call (n := 1) (sp_doTurn l g hM hm hp hs d) o_X8_doTurn m_X8_119 ⟨by decide, by decide⟩ (by assumption) rfl rfl (by first | exact Nat.le_of_ble_eq_true rfl | simp [Value.category]) (Nat.le_refl _) (Nat.le_refl _) rfl dX8_turn_18 rfl (kX ?_)
    exact V_ireturn rfl rfl dX8_turn_21 rfl rfl rfl (⟨_, rfl, (aTuR_ok (aTuE_ok h_7)).symm, rfl, Or.inl ⟨aTuE_ok h_7, _, hr13, rfl⟩⟩)
  · refine V_iload_n (i := 2) rfl rfl dX8_turn_10 rfl ?_
    exact V_ireturn rfl rfl dX8_turn_11 rfl rfl rfl (⟨_, rfl, (aTuE_no h_7).2.symm, rfl, Or.inr ⟨(aTuE_no h_7).1, rfl⟩⟩)

set_option maxHeartbeats 4000000 in
set_option maxRecDepth 100000 in
theorem lp_play (l : Launch) (g : fw_G) {I I1 : fw_I} {P : fw_P} (hM : MSh P) {s0 : Nat → Int32} {k B mm : Nat} (x0 m : Int32) (hr : RecP (wr I 689 s0) I1 k) (hok : aPyOk s0 x0 m) (hmm : m = nI mm) (hm50 : mm ≤ 50) (hR : aPyR s0 x0 m = nI (aPyF mm x0 s0).1) : ∀ (n j : Nat) (x : Int32) (s : Nat → Int32), j + n = mm → Inv B s → (0 ≤ x ∧ x ≤ 65535) → aPyF mm x0 s0 = ((aPyF n x s).1 + j, (aPyF n x s).2) → V l g kX8_play T0 0 0 (qJ (fun r I2 P2 => r = aPyR s0 x0 m ∧ P2 = P ∧ MU (wr I 689 s0) k (aPyOk s0 x0 m) (aPyF m.toNatClampNeg x0 s0).2 I2)) T0 (wr I1 689 s) P 0 0 42 [some (.ref (g.1 + 688)), some (.int x0), some (.int (nI mm)), some (.int (nI j)), some (.int x)] [] := by
  have a688 := at_688
  have a689 := at_689
  obtain ⟨p0, p1, p3, p5, p6, p10, p12, p13⟩ := id hM
  intro n
  induction n with
  | zero =>
    intro j x s hj hI hx hF
    obtain rfl : j = mm := by omega
    refine V_iload_n (i := 3) rfl rfl dX8_play_42 rfl ?_
    refine V_iload_n (i := 2) rfl rfl dX8_play_43 rfl ?_
    refine V_icmp_ge (tgt := 77) dX8_play_44 (by decide) rfl (fun _ => ?_) (fun h => absurd (nI_le (Nat.le_refl _) (by omega)) h)
    refine V_iload_n (i := 3) rfl rfl dX8_play_77 rfl ?_
    exact V_ireturn rfl rfl dX8_play_78 rfl rfl rfl (⟨_, rfl, by rw [hR, hF]; exact congrArg nI (Nat.zero_add _).symm, rfl, Or.inl ⟨hok, I1, hr, by rw [hmm, nI_clamp (by omega), hF]; rfl⟩⟩)
  | succ n ih =>
    intro j x s hj hI hx hF
    obtain ⟨p, hp, hs⟩ := hI.now
    have hm := hI.mOk
    have hd := aDraw_in hx
    have hdi := aDice_in hd
    have hF2 : aPyF (n + 1) x s = if s 4 = 4 then (0, s) else ((aPyF n (aDraw x) (aT s (aDice (aDraw x)))).1 + 1, (aPyF n (aDraw x) (aT s (aDice (aDraw x)))).2) := rfl
    refine V_iload_n (i := 3) rfl rfl dX8_play_42 rfl ?_
    refine V_iload_n (i := 2) rfl rfl dX8_play_43 rfl ?_
    refine V_icmp_ge (tgt := 77) dX8_play_44 (by decide) rfl (fun h => absurd h (nI_ge (by omega) (by omega))) (fun _ => ?_)
    refine V_aload_n (i := 0) rfl rfl dX8_play_47 rfl ?_
    refine V_call (n := 0) (sp_isOver l g hM) o_X8_isOver m_X8_92 ⟨by decide, by decide⟩ (by assumption) rfl rfl (by first | exact Nat.le_of_ble_eq_true rfl | simp [Value.category]) (Nat.le_refl _) (Nat.le_refl _) rfl dX8_play_48 rfl (kI ?_)
    refine V_if_ne (tgt := 77) dX8_play_51 (by decide) rfl (fun h_51 => ?_) (fun h_51 => ?_)
    · refine V_iload_n (i := 3) rfl rfl dX8_play_77 rfl ?_
      exact V_ireturn rfl rfl dX8_play_78 rfl rfl rfl (⟨_, rfl, by rw [hR, hF, hF2, if_pos (bI_nz h_51)]; exact congrArg nI (Nat.zero_add _).symm, rfl, Or.inl ⟨hok, I1, hr, by rw [hmm, nI_clamp (by omega), hF, hF2, if_pos (bI_nz h_51)]⟩⟩)
    · refine V_iload (i := 4) rfl dX8_play_54 rfl ?_
      refine V_callS (n := 1) (sp_draw l g _ _ x) o_X8_draw m_X8_123 ⟨by decide, by decide⟩ rfl rfl (by first | exact Nat.le_of_ble_eq_true rfl | simp [Value.category]) (Nat.le_refl _) (Nat.le_refl _) rfl dX8_play_56 rfl (kI ?_)
      refine V_istore (i := 4) (by decide) rfl dX8_play_59 rfl ?_
      refine V_aload_n (i := 0) rfl rfl dX8_play_61 rfl ?_
      refine V_iload (i := 4) rfl dX8_play_62 rfl ?_
      refine V_callS (n := 1) (sp_diceOf l g _ _ (aDraw x)) o_X8_diceOf m_X8_126 ⟨by decide, by decide⟩ rfl rfl (by first | exact Nat.le_of_ble_eq_true rfl | simp [Value.category]) (Nat.le_refl _) (Nat.le_refl _) rfl dX8_play_64 rfl (kI ?_)
      refine V_call (n := 1) (sp_doTurn l g hM hm hp hs (aDice (aDraw x))) o_X8_doTurn m_X8_119 ⟨by decide, by decide⟩ (by assumption) rfl rfl (by first | exact Nat.le_of_ble_eq_true rfl | simp [Value.category]) (Nat.le_refl _) (Nat.le_refl _) rfl dX8_play_67 rfl (kX ?_)
      refine V_pop (by first | rfl | (cases ‹Option Nat› <;> rfl)) dX8_play_70 rfl ?_
      refine V_iinc1 (i := 3) rfl (by decide) rfl dX8_play_71 rfl ?_
      refine V_goto (tgt := 42) dX8_play_74 (by decide) ?_
      obtain ⟨dn, hd1, hd6, ed⟩ := aDi.nat hdi
      have h9 := ih (j + 1) (aDraw x) (aT s (aDice (aDraw x))) (by omega) (by rw [ed]; exact Inv_T hI (bI_z h_51) hd1 hd6) hd (by rw [hF, hF2, if_neg (bI_z h_51)]; exact Prod.ext (by show _ + 1 + j = _ + (j + 1); omega) rfl)
      rw [← nI_1] at h9
      exact h9

set_option maxHeartbeats 4000000 in
set_option maxRecDepth 100000 in
theorem sp_play (l : Launch) (g : fw_G) {I : fw_I} {P : fw_P} {s : Nat → Int32} (hM : MSh P) {k : Nat} (hk5 : k ≤ 5) (hk : I 688 2 = nI k) {B : Nat} (hI : Inv B s) (x m : Int32) : Sp l g kX8_play T0 [.ref (g.1 + 688), .int x, .int m] (wr I 689 s) P T0 0 0 (qJ (fun r I2 P2 => r = aPyR s x m ∧ P2 = P ∧ MU (wr I 689 s) k (aPyOk s x m) ((aPyF m.toNatClampNeg x s).2) I2)) := by
  have a688 := at_688
  have a689 := at_689
  obtain ⟨p0, p1, p3, p5, p6, p10, p12, p13⟩ := id hM
  refine Sp.of_V (L := [some (.ref (g.1 + 688)), some (.int x), some (.int m), none, none]) (by decide) (by simp [Value.category]) (Nat.le_of_ble_eq_true rfl) rfl ?_
  refine V_iload_n (i := 1) rfl rfl dX8_play_0 rfl ?_
  refine V_iconst (v := 0) (by decide) dX8_play_1 rfl ?_
  refine V_ldc cst_X8_122 dX8_play_2 rfl ?_
  refine V_callS (n := 3) (sp_in l g _ P x 0 65535) o_X8_in m_X8_35 ⟨by decide, by decide⟩ rfl rfl (by first | exact Nat.le_of_ble_eq_true rfl | simp [Value.category]) (Nat.le_refl _) (Nat.le_refl _) rfl dX8_play_4 rfl (kI ?_)
  refine V_if_eq (tgt := 20) dX8_play_7 (by decide) rfl (fun h_7 => ?_) (fun h_7 => ?_)
  · refine V_bipush (v := (-2)) (by decide) dX8_play_20 rfl ?_
    exact V_ireturn rfl rfl dX8_play_22 rfl rfl rfl (by first | (have hn : ¬ aPyC x m := fun h => bI_z h_7 h.1; exact ⟨_, rfl, by unfold aPyR; rw [if_pos hn], rfl, Or.inr ⟨fun h => hn h.1, rfl⟩⟩) | (have hn : ¬ aPyC x m := fun h => bI_z h_17 h.2; exact ⟨_, rfl, by unfold aPyR; rw [if_pos hn], rfl, Or.inr ⟨fun h => hn h.1, rfl⟩⟩))
  · refine V_iload_n (i := 2) rfl rfl dX8_play_10 rfl ?_
    refine V_iconst (v := 1) (by decide) dX8_play_11 rfl ?_
    refine V_bipush (v := 50) (by decide) dX8_play_12 rfl ?_
    refine V_callS (n := 3) (sp_in l g _ P m 1 50) o_X8_in m_X8_35 ⟨by decide, by decide⟩ rfl rfl (by first | exact Nat.le_of_ble_eq_true rfl | simp [Value.category]) (Nat.le_refl _) (Nat.le_refl _) rfl dX8_play_14 rfl (kI ?_)
    refine V_if_ne (tgt := 23) dX8_play_17 (by decide) rfl (fun h_17 => ?_) (fun h_17 => ?_)
    · refine V_aload_n (i := 0) rfl rfl dX8_play_23 rfl ?_
      refine V_call (n := 0) (sp_isOver l g hM) o_X8_isOver m_X8_92 ⟨by decide, by decide⟩ (by assumption) rfl rfl (by first | exact Nat.le_of_ble_eq_true rfl | simp [Value.category]) (Nat.le_refl _) (Nat.le_refl _) rfl dX8_play_24 rfl (kI ?_)
      refine V_if_eq (tgt := 33) dX8_play_27 (by decide) rfl (fun h_27 => ?_) (fun h_27 => ?_)
      · refine V_aload_n (i := 0) rfl rfl dX8_play_33 rfl ?_
        refine V_call (n := 0) (sp_record (I := wr I 689 s) l g hM hk5 hk) o_X8_record m_X8_110 ⟨by decide, by decide⟩ (by assumption) rfl rfl (by first | exact Nat.le_of_ble_eq_true rfl | simp [Value.category]) (Nat.le_refl _) (Nat.le_refl _) rfl dX8_play_34 rfl (kRec (fun I34 hr34 => ?_))
        rw [hr34.mem]
        refine V_iconst (v := 0) (by decide) dX8_play_37 rfl ?_
        refine V_istore_n (i := 3) rfl (by decide) rfl dX8_play_38 rfl ?_
        refine V_iload_n (i := 1) rfl rfl dX8_play_39 rfl ?_
        refine V_istore (i := 4) (by decide) rfl dX8_play_40 rfl ?_
        obtain ⟨mm, hmm, rfl⟩ := nI_of2 (x := m) (M := 50) (n := 50) rfl (by rw [i32_lt]; have := i32_le.mp (bI_nz h_17).1; simp at this ⊢; omega) (bI_nz h_17).2
        have hcm : (nI mm).toNatClampNeg = mm := nI_clamp (by omega)
        exact lp_play (B := B) l g hM x (nI mm) hr34 ⟨⟨bI_nz h_7, bI_nz h_17⟩, bI_z h_27⟩ rfl hmm (by unfold aPyR; rw [if_neg (fun h => h ⟨bI_nz h_7, bI_nz h_17⟩), if_neg (bI_z h_27), hcm]) mm 0 x s (by omega) hI (bI_nz h_7) (Prod.ext (by show _ = _ + 0; omega) rfl)
      · refine V_bipush (v := (-4)) (by decide) dX8_play_30 rfl ?_
        exact V_ireturn rfl rfl dX8_play_32 rfl rfl rfl (⟨_, rfl, by unfold aPyR; rw [if_neg (fun h => h ⟨bI_nz h_7, bI_nz h_17⟩), if_pos (bI_nz h_27)], rfl, Or.inr ⟨fun h => h.2 (bI_nz h_27), rfl⟩⟩)
    · refine V_bipush (v := (-2)) (by decide) dX8_play_20 rfl ?_
      exact V_ireturn rfl rfl dX8_play_22 rfl rfl rfl (by first | (have hn : ¬ aPyC x m := fun h => bI_z h_7 h.1; exact ⟨_, rfl, by unfold aPyR; rw [if_pos hn], rfl, Or.inr ⟨fun h => hn h.1, rfl⟩⟩) | (have hn : ¬ aPyC x m := fun h => bI_z h_17 h.2; exact ⟨_, rfl, by unfold aPyR; rw [if_pos hn], rfl, Or.inr ⟨fun h => hn h.1, rfl⟩⟩))

set_option maxHeartbeats 4000000 in
set_option maxRecDepth 100000 in
theorem sp_sell (l : Launch) (g : fw_G) {I : fw_I} {P : fw_P} {s : Nat → Int32} (hM : MSh P) {k : Nat} (hk5 : k ≤ 5) (hk : I 688 2 = nI k) (hm : mOk s) (x y z c : Int32) : Sp l g kX8_sell T0 [.ref (g.1 + 688), .int x, .int y, .int z, .int c] (wr I 689 s) P T0 0 0 (qJ (fun r I2 P2 => r = aSelR s x y z c ∧ P2 = P ∧ MU (wr I 689 s) k (aSelOk s x y z c) (aSelF s x y z c) I2)) := by
  have a688 := at_688
  have a689 := at_689
  obtain ⟨p0, p1, p3, p5, p6, p10, p12, p13⟩ := id hM
  refine Sp.of_V (L := [some (.ref (g.1 + 688)), some (.int x), some (.int y), some (.int z), some (.int c), none, none]) (by decide) (by simp [Value.category]) (Nat.le_of_ble_eq_true rfl) rfl ?_
  refine V_aload_n (i := 0) rfl rfl dX8_sell_0 rfl ?_
  refine V_iload_n (i := 1) rfl rfl dX8_sell_1 rfl ?_
  refine V_iload_n (i := 2) rfl rfl dX8_sell_2 rfl ?_
  refine V_iload_n (i := 3) rfl rfl dX8_sell_3 rfl ?_
  refine V_iload (i := 4) rfl dX8_sell_4 rfl ?_
  refine V_call (n := 4) (sp_sellError l g hM x y z c) o_X8_sellError m_X8_129 ⟨by decide, by decide⟩ (by assumption) rfl rfl (by first | exact Nat.le_of_ble_eq_true rfl | simp [Value.category]) (Nat.le_refl _) (Nat.le_refl _) rfl dX8_sell_6 rfl (kI ?_)
  refine V_istore (i := 5) (by decide) rfl dX8_sell_9 rfl ?_
  refine V_iload (i := 5) rfl dX8_sell_11 rfl ?_
  refine V_if_ge (tgt := 19) dX8_sell_13 (by decide) rfl (fun h_13 => ?_) (fun h_13 => ?_)
  · obtain ⟨he0, ⟨hbt, hpl⟩, hcc, hxz⟩ := (aSeE_cases s x y z c).elim (fun h => absurd h.1 (Int32.not_lt.mpr h_13)) id
    obtain ⟨p, y1, hp, rfl, hky, rfl, hk20⟩ := aBt.nat hm hbt
    obtain ⟨b, hb, rfl⟩ := hpl.nat
    have hpb : ¬ p = b := fun h => hxz (by rw [h])
    have hc : (nI p).toNatClampNeg = p := nI_clamp (by omega)
    have hck : (nI y1).toNatClampNeg = y1 := nI_clamp (by omega)
    have hcb : (nI b).toNatClampNeg = b := nI_clamp (by omega)
    refine V_aload_n (i := 0) rfl rfl dX8_sell_19 rfl ?_
    refine V_iload_n (i := 1) rfl rfl dX8_sell_20 rfl ?_
    refine V_iload_n (i := 2) rfl rfl dX8_sell_21 rfl ?_
    refine V_iload_n (i := 3) rfl rfl dX8_sell_22 rfl ?_
    refine V_iload (i := 4) rfl dX8_sell_23 rfl ?_
    refine V_call (n := 4) (sp_reason l g hM hp hk20 hb c) o_X8_reason m_X8_133 ⟨by decide, by decide⟩ (by assumption) rfl rfl (by first | exact Nat.le_of_ble_eq_true rfl | simp [Value.category]) (Nat.le_refl _) (Nat.le_refl _) rfl dX8_sell_25 rfl (kI ?_)
    refine V_istore (i := 6) (by decide) rfl dX8_sell_28 rfl ?_
    refine V_iload (i := 6) rfl dX8_sell_30 rfl ?_
    refine V_if_le (tgt := 41) dX8_sell_32 (by decide) rfl (fun h_32 => ?_) (fun h_32 => ?_)
    · refine V_aload_n (i := 0) rfl rfl dX8_sell_41 rfl ?_
      refine V_call (n := 0) (sp_record (I := wr I 689 s) l g hM hk5 hk) o_X8_record m_X8_110 ⟨by decide, by decide⟩ (by assumption) rfl rfl (by first | exact Nat.le_of_ble_eq_true rfl | simp [Value.category]) (Nat.le_refl _) (Nat.le_refl _) rfl dX8_sell_42 rfl (kRec (fun I42 hr42 => ?_))
      rw [hr42.mem]
      refine V_aload_n (i := 0) rfl rfl dX8_sell_45 rfl ?_
      refine V_iload_n (i := 1) rfl rfl dX8_sell_46 rfl ?_
      refine V_iload_n (i := 2) rfl rfl dX8_sell_47 rfl ?_
      refine V_iload_n (i := 3) rfl rfl dX8_sell_48 rfl ?_
      refine V_iload (i := 4) rfl dX8_sell_49 rfl ?_
      refine V_call (n := 4) (sp_doSell l g hM hm hp hky hb hpb c) o_X8_doSell m_X8_136 ⟨by decide, by decide⟩ (by assumption) rfl rfl (by first | exact Nat.le_of_ble_eq_true rfl | simp [Value.category]) (Nat.le_refl _) (Nat.le_refl _) rfl dX8_sell_51 rfl (kX ?_)
      exact V_ireturn rfl rfl dX8_sell_54 rfl rfl rfl (⟨_, rfl, by unfold aSelR; rw [if_neg (Int32.not_lt.mpr h_13), hc, hck, hcb, if_neg (Int32.not_lt.mpr h_32)], rfl, Or.inl ⟨⟨he0, by rw [hc, hck, hcb]; exact (aRea_cases s p y1 b c).elim id (fun h => absurd h (Int32.not_lt.mpr h_32))⟩, _, hr42, by unfold aSelF; rw [hc, hck, hcb]⟩⟩)
    · refine V_bipush (v := (-10)) (by decide) dX8_sell_35 rfl ?_
      refine V_iload (i := 6) rfl dX8_sell_37 rfl ?_
      refine V_isub dX8_sell_39 rfl ?_
      exact V_ireturn rfl rfl dX8_sell_40 rfl rfl rfl (⟨_, rfl, by unfold aSelR; rw [if_neg (Int32.not_lt.mpr h_13), hc, hck, hcb, if_pos (Int32.not_le.mp h_32)], rfl, Or.inr ⟨fun h => h_32 (by have h2 := h.2; rw [hc, hck, hcb] at h2; rw [h2]; decide), rfl⟩⟩)
  · refine V_iload (i := 5) rfl dX8_sell_16 rfl ?_
    exact V_ireturn rfl rfl dX8_sell_18 rfl rfl rfl (⟨_, rfl, by unfold aSelR; rw [if_pos (Int32.not_le.mp h_13)], rfl, Or.inr ⟨fun h => h_13 (by rw [h.1]; decide), rfl⟩⟩)

set_option maxHeartbeats 4000000 in
set_option maxRecDepth 100000 in
theorem sp_set (l : Launch) (g : fw_G) {I : fw_I} {P : fw_P} {s : Nat → Int32} (hM : MSh P) {k : Nat} (hk5 : k ≤ 5) (hk : I 688 2 = nI k) (x v : Int32) : Sp l g kX8_set T0 [.ref (g.1 + 688), .int x, .int v] (wr I 689 s) P T0 0 0 (qJ (fun r I2 P2 => r = aSetR s x v ∧ P2 = P ∧ MU (wr I 689 s) k (aSetOk x v) (aSetF s x v) I2)) := by
  have a688 := at_688
  have a689 := at_689
  obtain ⟨p0, p1, p3, p5, p6, p10, p12, p13⟩ := id hM
  refine Sp.of_V (L := [some (.ref (g.1 + 688)), some (.int x), some (.int v), none]) (by decide) (by simp [Value.category]) (Nat.le_of_ble_eq_true rfl) rfl ?_
  refine V_iload_n (i := 1) rfl rfl dX8_set_0 rfl ?_
  refine V_iconst (v := 0) (by decide) dX8_set_1 rfl ?_
  refine V_iconst (v := 2) (by decide) dX8_set_2 rfl ?_
  refine V_callS (n := 3) (sp_in l g _ P x 0 2) o_X8_in m_X8_35 ⟨by decide, by decide⟩ rfl rfl (by first | exact Nat.le_of_ble_eq_true rfl | simp [Value.category]) (Nat.le_refl _) (Nat.le_refl _) rfl dX8_set_3 rfl (kI ?_)
  refine V_if_ne (tgt := 11) dX8_set_6 (by decide) rfl (fun h_6 => ?_) (fun h_6 => ?_)
  · refine V_iload_n (i := 2) rfl rfl dX8_set_11 rfl ?_
    refine V_iload_n (i := 1) rfl rfl dX8_set_12 rfl ?_
    refine V_iconst (v := 2) (by decide) dX8_set_13 rfl ?_
    refine V_icmp_ne (tgt := 21) dX8_set_14 (by decide) rfl (fun h_14 => ?_) (fun h_14 => ?_)
    · refine V_iconst (v := 0) (by decide) dX8_set_21 rfl ?_
      refine V_iload_n (i := 1) rfl rfl dX8_set_22 rfl ?_
      refine V_if_ne (tgt := 31) dX8_set_23 (by decide) rfl (fun h_23 => ?_) (fun h_23 => ?_)
      · refine V_iload_n (i := 1) rfl rfl dX8_set_31 rfl ?_
        refine V_iconst (v := 1) (by decide) dX8_set_32 rfl ?_
        refine V_icmp_ne (tgt := 41) dX8_set_33 (by decide) rfl (fun h_33 => ?_) (fun h_33 => ?_)
        · refine V_iconst (v := 3) (by decide) dX8_set_41 rfl ?_
          refine V_callS (n := 3) (sp_in l g _ P v _ _) o_X8_in m_X8_35 ⟨by decide, by decide⟩ rfl rfl (by first | exact Nat.le_of_ble_eq_true rfl | simp [Value.category]) (Nat.le_refl _) (Nat.le_refl _) rfl dX8_set_42 rfl (kI ?_)
          refine V_if_ne (tgt := 51) dX8_set_45 (by decide) rfl (fun h_45 => ?_) (fun h_45 => ?_)
          · refine V_aload_n (i := 0) rfl rfl dX8_set_51 rfl ?_
            refine V_call (n := 0) (sp_record (I := wr I 689 s) l g hM hk5 hk) o_X8_record m_X8_110 ⟨by decide, by decide⟩ (by assumption) rfl rfl (by first | exact Nat.le_of_ble_eq_true rfl | simp [Value.category]) (Nat.le_refl _) (Nat.le_refl _) rfl dX8_set_52 rfl (kRec (fun I52 hr52 => ?_))
            rw [hr52.mem]
            obtain ⟨i, hi, ei⟩ := aSt3.nat (bI_nz h_6)
            have hci : x.toNatClampNeg = i := by rw [ei]; exact nI_clamp (by omega)
            have hix : fw_ix (5 + x) (5 + x.toNatClampNeg) 392 := by rw [hci, ei, show (5 : Int32) = nI 5 from rfl, nI_add]; exact fw_ix_nI (by omega) (by omega)
            have hv : aSeV x v := by
              have h9 := bI_nz h_45
              constructor
              · first | (rw [if_pos h_14]; exact h9.1) | (rw [if_neg h_14]; exact h9.1)
              · first | (rw [if_pos h_23]; exact h9.2) | (rw [if_neg h_23]; first | (rw [if_pos h_33]; exact h9.2) | (rw [if_neg h_33]; exact h9.2))
            refine V_aload_n (i := 0) rfl rfl dX8_set_55 rfl ?_
            refine V_getr (kf := 0) C8 (by decide) l_X8_7 (by assumption) rfl (by assumption) dX8_set_56 rfl ?_
            refine V_iconst (v := 5) (by decide) dX8_set_59 rfl ?_
            refine V_iload_n (i := 1) rfl rfl dX8_set_60 rfl ?_
            refine V_iadd dX8_set_61 rfl ?_
            refine V_iald9 (by assumption) hix dX8_set_62 rfl ?_
            refine V_istore_n (i := 3) rfl (by decide) rfl dX8_set_63 rfl ?_
            refine V_aload_n (i := 0) rfl rfl dX8_set_64 rfl ?_
            refine V_getr (kf := 0) C8 (by decide) l_X8_7 (by assumption) rfl (by assumption) dX8_set_65 rfl ?_
            refine V_iconst (v := 5) (by decide) dX8_set_68 rfl ?_
            refine V_iload_n (i := 1) rfl rfl dX8_set_69 rfl ?_
            refine V_iadd dX8_set_70 rfl ?_
            refine V_iload_n (i := 2) rfl rfl dX8_set_71 rfl ?_
            refine V_iast9 (by assumption) hix dX8_set_72 rfl ?_
            refine V_iload_n (i := 3) rfl rfl dX8_set_73 rfl ?_
            exact V_ireturn rfl rfl dX8_set_74 rfl rfl rfl (⟨_, rfl, by unfold aSetR; rw [if_neg (fun h => h (bI_nz h_6)), if_neg (fun h => h hv)], rfl, Or.inl ⟨⟨bI_nz h_6, hv⟩, _, hr52, rfl⟩⟩)
          · refine V_bipush (v := (-2)) (by decide) dX8_set_48 rfl ?_
            exact V_ireturn rfl rfl dX8_set_50 rfl rfl rfl (by
                  have hv : ¬ aSeV x v := fun h => bI_z h_45 (by
                    obtain ⟨h1, h2⟩ := h
                    constructor
                    · first | (rw [if_pos h_14] at h1; exact h1) | (rw [if_neg h_14] at h1; exact h1)
                    · first | (rw [if_pos h_23] at h2; exact h2) | (rw [if_neg h_23] at h2; first | (rw [if_pos h_33] at h2; exact h2) | (rw [if_neg h_33] at h2; exact h2)))
                  exact ⟨_, rfl, by unfold aSetR; rw [if_neg (fun h => h (bI_nz h_6)), if_pos hv], rfl, Or.inr ⟨fun h => hv h.2, rfl⟩⟩)
        · refine V_bipush (v := 50) (by decide) dX8_set_36 rfl ?_
          refine V_goto (tgt := 42) dX8_set_38 (by decide) ?_
          refine V_callS (n := 3) (sp_in l g _ P v _ _) o_X8_in m_X8_35 ⟨by decide, by decide⟩ rfl rfl (by first | exact Nat.le_of_ble_eq_true rfl | simp [Value.category]) (Nat.le_refl _) (Nat.le_refl _) rfl dX8_set_42 rfl (kI ?_)
          refine V_if_ne (tgt := 51) dX8_set_45 (by decide) rfl (fun h_45 => ?_) (fun h_45 => ?_)
          · refine V_aload_n (i := 0) rfl rfl dX8_set_51 rfl ?_
            refine V_call (n := 0) (sp_record (I := wr I 689 s) l g hM hk5 hk) o_X8_record m_X8_110 ⟨by decide, by decide⟩ (by assumption) rfl rfl (by first | exact Nat.le_of_ble_eq_true rfl | simp [Value.category]) (Nat.le_refl _) (Nat.le_refl _) rfl dX8_set_52 rfl (kRec (fun I52 hr52 => ?_))
            rw [hr52.mem]
            obtain ⟨i, hi, ei⟩ := aSt3.nat (bI_nz h_6)
            have hci : x.toNatClampNeg = i := by rw [ei]; exact nI_clamp (by omega)
            have hix : fw_ix (5 + x) (5 + x.toNatClampNeg) 392 := by rw [hci, ei, show (5 : Int32) = nI 5 from rfl, nI_add]; exact fw_ix_nI (by omega) (by omega)
            have hv : aSeV x v := by
              have h9 := bI_nz h_45
              constructor
              · first | (rw [if_pos h_14]; exact h9.1) | (rw [if_neg h_14]; exact h9.1)
              · first | (rw [if_pos h_23]; exact h9.2) | (rw [if_neg h_23]; first | (rw [if_pos h_33]; exact h9.2) | (rw [if_neg h_33]; exact h9.2))
            refine V_aload_n (i := 0) rfl rfl dX8_set_55 rfl ?_
            refine V_getr (kf := 0) C8 (by decide) l_X8_7 (by assumption) rfl (by assumption) dX8_set_56 rfl ?_
            refine V_iconst (v := 5) (by decide) dX8_set_59 rfl ?_
            refine V_iload_n (i := 1) rfl rfl dX8_set_60 rfl ?_
            refine V_iadd dX8_set_61 rfl ?_
            refine V_iald9 (by assumption) hix dX8_set_62 rfl ?_
            refine V_istore_n (i := 3) rfl (by decide) rfl dX8_set_63 rfl ?_
            refine V_aload_n (i := 0) rfl rfl dX8_set_64 rfl ?_
            refine V_getr (kf := 0) C8 (by decide) l_X8_7 (by assumption) rfl (by assumption) dX8_set_65 rfl ?_
            refine V_iconst (v := 5) (by decide) dX8_set_68 rfl ?_
            refine V_iload_n (i := 1) rfl rfl dX8_set_69 rfl ?_
            refine V_iadd dX8_set_70 rfl ?_
            refine V_iload_n (i := 2) rfl rfl dX8_set_71 rfl ?_
            refine V_iast9 (by assumption) hix dX8_set_72 rfl ?_
            refine V_iload_n (i := 3) rfl rfl dX8_set_73 rfl ?_
            exact V_ireturn rfl rfl dX8_set_74 rfl rfl rfl (⟨_, rfl, by unfold aSetR; rw [if_neg (fun h => h (bI_nz h_6)), if_neg (fun h => h hv)], rfl, Or.inl ⟨⟨bI_nz h_6, hv⟩, _, hr52, rfl⟩⟩)
          · refine V_bipush (v := (-2)) (by decide) dX8_set_48 rfl ?_
            exact V_ireturn rfl rfl dX8_set_50 rfl rfl rfl (by
                  have hv : ¬ aSeV x v := fun h => bI_z h_45 (by
                    obtain ⟨h1, h2⟩ := h
                    constructor
                    · first | (rw [if_pos h_14] at h1; exact h1) | (rw [if_neg h_14] at h1; exact h1)
                    · first | (rw [if_pos h_23] at h2; exact h2) | (rw [if_neg h_23] at h2; first | (rw [if_pos h_33] at h2; exact h2) | (rw [if_neg h_33] at h2; exact h2)))
                  exact ⟨_, rfl, by unfold aSetR; rw [if_neg (fun h => h (bI_nz h_6)), if_pos hv], rfl, Or.inr ⟨fun h => hv h.2, rfl⟩⟩)
      · refine V_bipush (v := 9) (by decide) dX8_set_26 rfl ?_
        refine V_goto (tgt := 42) dX8_set_28 (by decide) ?_
        refine V_callS (n := 3) (sp_in l g _ P v _ _) o_X8_in m_X8_35 ⟨by decide, by decide⟩ rfl rfl (by first | exact Nat.le_of_ble_eq_true rfl | simp [Value.category]) (Nat.le_refl _) (Nat.le_refl _) rfl dX8_set_42 rfl (kI ?_)
        refine V_if_ne (tgt := 51) dX8_set_45 (by decide) rfl (fun h_45 => ?_) (fun h_45 => ?_)
        · refine V_aload_n (i := 0) rfl rfl dX8_set_51 rfl ?_
          refine V_call (n := 0) (sp_record (I := wr I 689 s) l g hM hk5 hk) o_X8_record m_X8_110 ⟨by decide, by decide⟩ (by assumption) rfl rfl (by first | exact Nat.le_of_ble_eq_true rfl | simp [Value.category]) (Nat.le_refl _) (Nat.le_refl _) rfl dX8_set_52 rfl (kRec (fun I52 hr52 => ?_))
          rw [hr52.mem]
          obtain ⟨i, hi, ei⟩ := aSt3.nat (bI_nz h_6)
          have hci : x.toNatClampNeg = i := by rw [ei]; exact nI_clamp (by omega)
          have hix : fw_ix (5 + x) (5 + x.toNatClampNeg) 392 := by rw [hci, ei, show (5 : Int32) = nI 5 from rfl, nI_add]; exact fw_ix_nI (by omega) (by omega)
          have hv : aSeV x v := by
            have h9 := bI_nz h_45
            constructor
            · first | (rw [if_pos h_14]; exact h9.1) | (rw [if_neg h_14]; exact h9.1)
            · first | (rw [if_pos h_23]; exact h9.2) | (rw [if_neg h_23]; first | (rw [if_pos h_33]; exact h9.2) | (rw [if_neg h_33]; exact h9.2))
          refine V_aload_n (i := 0) rfl rfl dX8_set_55 rfl ?_
          refine V_getr (kf := 0) C8 (by decide) l_X8_7 (by assumption) rfl (by assumption) dX8_set_56 rfl ?_
          refine V_iconst (v := 5) (by decide) dX8_set_59 rfl ?_
          refine V_iload_n (i := 1) rfl rfl dX8_set_60 rfl ?_
          refine V_iadd dX8_set_61 rfl ?_
          refine V_iald9 (by assumption) hix dX8_set_62 rfl ?_
          refine V_istore_n (i := 3) rfl (by decide) rfl dX8_set_63 rfl ?_
          refine V_aload_n (i := 0) rfl rfl dX8_set_64 rfl ?_
          refine V_getr (kf := 0) C8 (by decide) l_X8_7 (by assumption) rfl (by assumption) dX8_set_65 rfl ?_
          refine V_iconst (v := 5) (by decide) dX8_set_68 rfl ?_
          refine V_iload_n (i := 1) rfl rfl dX8_set_69 rfl ?_
          refine V_iadd dX8_set_70 rfl ?_
          refine V_iload_n (i := 2) rfl rfl dX8_set_71 rfl ?_
          refine V_iast9 (by assumption) hix dX8_set_72 rfl ?_
          refine V_iload_n (i := 3) rfl rfl dX8_set_73 rfl ?_
          exact V_ireturn rfl rfl dX8_set_74 rfl rfl rfl (⟨_, rfl, by unfold aSetR; rw [if_neg (fun h => h (bI_nz h_6)), if_neg (fun h => h hv)], rfl, Or.inl ⟨⟨bI_nz h_6, hv⟩, _, hr52, rfl⟩⟩)
        · refine V_bipush (v := (-2)) (by decide) dX8_set_48 rfl ?_
          exact V_ireturn rfl rfl dX8_set_50 rfl rfl rfl (by
                have hv : ¬ aSeV x v := fun h => bI_z h_45 (by
                  obtain ⟨h1, h2⟩ := h
                  constructor
                  · first | (rw [if_pos h_14] at h1; exact h1) | (rw [if_neg h_14] at h1; exact h1)
                  · first | (rw [if_pos h_23] at h2; exact h2) | (rw [if_neg h_23] at h2; first | (rw [if_pos h_33] at h2; exact h2) | (rw [if_neg h_33] at h2; exact h2)))
                exact ⟨_, rfl, by unfold aSetR; rw [if_neg (fun h => h (bI_nz h_6)), if_pos hv], rfl, Or.inr ⟨fun h => hv h.2, rfl⟩⟩)
    · refine V_iconst (v := 1) (by decide) dX8_set_17 rfl ?_
      refine V_goto (tgt := 22) dX8_set_18 (by decide) ?_
      refine V_iload_n (i := 1) rfl rfl dX8_set_22 rfl ?_
      refine V_if_ne (tgt := 31) dX8_set_23 (by decide) rfl (fun h_23 => ?_) (fun h_23 => ?_)
      · refine V_iload_n (i := 1) rfl rfl dX8_set_31 rfl ?_
        refine V_iconst (v := 1) (by decide) dX8_set_32 rfl ?_
        refine V_icmp_ne (tgt := 41) dX8_set_33 (by decide) rfl (fun h_33 => ?_) (fun h_33 => ?_)
        · refine V_iconst (v := 3) (by decide) dX8_set_41 rfl ?_
          refine V_callS (n := 3) (sp_in l g _ P v _ _) o_X8_in m_X8_35 ⟨by decide, by decide⟩ rfl rfl (by first | exact Nat.le_of_ble_eq_true rfl | simp [Value.category]) (Nat.le_refl _) (Nat.le_refl _) rfl dX8_set_42 rfl (kI ?_)
          refine V_if_ne (tgt := 51) dX8_set_45 (by decide) rfl (fun h_45 => ?_) (fun h_45 => ?_)
          · refine V_aload_n (i := 0) rfl rfl dX8_set_51 rfl ?_
            refine V_call (n := 0) (sp_record (I := wr I 689 s) l g hM hk5 hk) o_X8_record m_X8_110 ⟨by decide, by decide⟩ (by assumption) rfl rfl (by first | exact Nat.le_of_ble_eq_true rfl | simp [Value.category]) (Nat.le_refl _) (Nat.le_refl _) rfl dX8_set_52 rfl (kRec (fun I52 hr52 => ?_))
            rw [hr52.mem]
            obtain ⟨i, hi, ei⟩ := aSt3.nat (bI_nz h_6)
            have hci : x.toNatClampNeg = i := by rw [ei]; exact nI_clamp (by omega)
            have hix : fw_ix (5 + x) (5 + x.toNatClampNeg) 392 := by rw [hci, ei, show (5 : Int32) = nI 5 from rfl, nI_add]; exact fw_ix_nI (by omega) (by omega)
            have hv : aSeV x v := by
              have h9 := bI_nz h_45
              constructor
              · first | (rw [if_pos h_14]; exact h9.1) | (rw [if_neg h_14]; exact h9.1)
              · first | (rw [if_pos h_23]; exact h9.2) | (rw [if_neg h_23]; first | (rw [if_pos h_33]; exact h9.2) | (rw [if_neg h_33]; exact h9.2))
            refine V_aload_n (i := 0) rfl rfl dX8_set_55 rfl ?_
            refine V_getr (kf := 0) C8 (by decide) l_X8_7 (by assumption) rfl (by assumption) dX8_set_56 rfl ?_
            refine V_iconst (v := 5) (by decide) dX8_set_59 rfl ?_
            refine V_iload_n (i := 1) rfl rfl dX8_set_60 rfl ?_
            refine V_iadd dX8_set_61 rfl ?_
            refine V_iald9 (by assumption) hix dX8_set_62 rfl ?_
            refine V_istore_n (i := 3) rfl (by decide) rfl dX8_set_63 rfl ?_
            refine V_aload_n (i := 0) rfl rfl dX8_set_64 rfl ?_
            refine V_getr (kf := 0) C8 (by decide) l_X8_7 (by assumption) rfl (by assumption) dX8_set_65 rfl ?_
            refine V_iconst (v := 5) (by decide) dX8_set_68 rfl ?_
            refine V_iload_n (i := 1) rfl rfl dX8_set_69 rfl ?_
            refine V_iadd dX8_set_70 rfl ?_
            refine V_iload_n (i := 2) rfl rfl dX8_set_71 rfl ?_
            refine V_iast9 (by assumption) hix dX8_set_72 rfl ?_
            refine V_iload_n (i := 3) rfl rfl dX8_set_73 rfl ?_
            exact V_ireturn rfl rfl dX8_set_74 rfl rfl rfl (⟨_, rfl, by unfold aSetR; rw [if_neg (fun h => h (bI_nz h_6)), if_neg (fun h => h hv)], rfl, Or.inl ⟨⟨bI_nz h_6, hv⟩, _, hr52, rfl⟩⟩)
          · refine V_bipush (v := (-2)) (by decide) dX8_set_48 rfl ?_
            exact V_ireturn rfl rfl dX8_set_50 rfl rfl rfl (by
                  have hv : ¬ aSeV x v := fun h => bI_z h_45 (by
                    obtain ⟨h1, h2⟩ := h
                    constructor
                    · first | (rw [if_pos h_14] at h1; exact h1) | (rw [if_neg h_14] at h1; exact h1)
                    · first | (rw [if_pos h_23] at h2; exact h2) | (rw [if_neg h_23] at h2; first | (rw [if_pos h_33] at h2; exact h2) | (rw [if_neg h_33] at h2; exact h2)))
                  exact ⟨_, rfl, by unfold aSetR; rw [if_neg (fun h => h (bI_nz h_6)), if_pos hv], rfl, Or.inr ⟨fun h => hv h.2, rfl⟩⟩)
        · refine V_bipush (v := 50) (by decide) dX8_set_36 rfl ?_
          refine V_goto (tgt := 42) dX8_set_38 (by decide) ?_
          refine V_callS (n := 3) (sp_in l g _ P v _ _) o_X8_in m_X8_35 ⟨by decide, by decide⟩ rfl rfl (by first | exact Nat.le_of_ble_eq_true rfl | simp [Value.category]) (Nat.le_refl _) (Nat.le_refl _) rfl dX8_set_42 rfl (kI ?_)
          refine V_if_ne (tgt := 51) dX8_set_45 (by decide) rfl (fun h_45 => ?_) (fun h_45 => ?_)
          · refine V_aload_n (i := 0) rfl rfl dX8_set_51 rfl ?_
            refine V_call (n := 0) (sp_record (I := wr I 689 s) l g hM hk5 hk) o_X8_record m_X8_110 ⟨by decide, by decide⟩ (by assumption) rfl rfl (by first | exact Nat.le_of_ble_eq_true rfl | simp [Value.category]) (Nat.le_refl _) (Nat.le_refl _) rfl dX8_set_52 rfl (kRec (fun I52 hr52 => ?_))
            rw [hr52.mem]
            obtain ⟨i, hi, ei⟩ := aSt3.nat (bI_nz h_6)
            have hci : x.toNatClampNeg = i := by rw [ei]; exact nI_clamp (by omega)
            have hix : fw_ix (5 + x) (5 + x.toNatClampNeg) 392 := by rw [hci, ei, show (5 : Int32) = nI 5 from rfl, nI_add]; exact fw_ix_nI (by omega) (by omega)
            have hv : aSeV x v := by
              have h9 := bI_nz h_45
              constructor
              · first | (rw [if_pos h_14]; exact h9.1) | (rw [if_neg h_14]; exact h9.1)
              · first | (rw [if_pos h_23]; exact h9.2) | (rw [if_neg h_23]; first | (rw [if_pos h_33]; exact h9.2) | (rw [if_neg h_33]; exact h9.2))
            refine V_aload_n (i := 0) rfl rfl dX8_set_55 rfl ?_
            refine V_getr (kf := 0) C8 (by decide) l_X8_7 (by assumption) rfl (by assumption) dX8_set_56 rfl ?_
            refine V_iconst (v := 5) (by decide) dX8_set_59 rfl ?_
            refine V_iload_n (i := 1) rfl rfl dX8_set_60 rfl ?_
            refine V_iadd dX8_set_61 rfl ?_
            refine V_iald9 (by assumption) hix dX8_set_62 rfl ?_
            refine V_istore_n (i := 3) rfl (by decide) rfl dX8_set_63 rfl ?_
            refine V_aload_n (i := 0) rfl rfl dX8_set_64 rfl ?_
            refine V_getr (kf := 0) C8 (by decide) l_X8_7 (by assumption) rfl (by assumption) dX8_set_65 rfl ?_
            refine V_iconst (v := 5) (by decide) dX8_set_68 rfl ?_
            refine V_iload_n (i := 1) rfl rfl dX8_set_69 rfl ?_
            refine V_iadd dX8_set_70 rfl ?_
            refine V_iload_n (i := 2) rfl rfl dX8_set_71 rfl ?_
            refine V_iast9 (by assumption) hix dX8_set_72 rfl ?_
            refine V_iload_n (i := 3) rfl rfl dX8_set_73 rfl ?_
            exact V_ireturn rfl rfl dX8_set_74 rfl rfl rfl (⟨_, rfl, by unfold aSetR; rw [if_neg (fun h => h (bI_nz h_6)), if_neg (fun h => h hv)], rfl, Or.inl ⟨⟨bI_nz h_6, hv⟩, _, hr52, rfl⟩⟩)
          · refine V_bipush (v := (-2)) (by decide) dX8_set_48 rfl ?_
            exact V_ireturn rfl rfl dX8_set_50 rfl rfl rfl (by
                  have hv : ¬ aSeV x v := fun h => bI_z h_45 (by
                    obtain ⟨h1, h2⟩ := h
                    constructor
                    · first | (rw [if_pos h_14] at h1; exact h1) | (rw [if_neg h_14] at h1; exact h1)
                    · first | (rw [if_pos h_23] at h2; exact h2) | (rw [if_neg h_23] at h2; first | (rw [if_pos h_33] at h2; exact h2) | (rw [if_neg h_33] at h2; exact h2)))
                  exact ⟨_, rfl, by unfold aSetR; rw [if_neg (fun h => h (bI_nz h_6)), if_pos hv], rfl, Or.inr ⟨fun h => hv h.2, rfl⟩⟩)
      · refine V_bipush (v := 9) (by decide) dX8_set_26 rfl ?_
        refine V_goto (tgt := 42) dX8_set_28 (by decide) ?_
        refine V_callS (n := 3) (sp_in l g _ P v _ _) o_X8_in m_X8_35 ⟨by decide, by decide⟩ rfl rfl (by first | exact Nat.le_of_ble_eq_true rfl | simp [Value.category]) (Nat.le_refl _) (Nat.le_refl _) rfl dX8_set_42 rfl (kI ?_)
        refine V_if_ne (tgt := 51) dX8_set_45 (by decide) rfl (fun h_45 => ?_) (fun h_45 => ?_)
        · refine V_aload_n (i := 0) rfl rfl dX8_set_51 rfl ?_
          refine V_call (n := 0) (sp_record (I := wr I 689 s) l g hM hk5 hk) o_X8_record m_X8_110 ⟨by decide, by decide⟩ (by assumption) rfl rfl (by first | exact Nat.le_of_ble_eq_true rfl | simp [Value.category]) (Nat.le_refl _) (Nat.le_refl _) rfl dX8_set_52 rfl (kRec (fun I52 hr52 => ?_))
          rw [hr52.mem]
          obtain ⟨i, hi, ei⟩ := aSt3.nat (bI_nz h_6)
          have hci : x.toNatClampNeg = i := by rw [ei]; exact nI_clamp (by omega)
          have hix : fw_ix (5 + x) (5 + x.toNatClampNeg) 392 := by rw [hci, ei, show (5 : Int32) = nI 5 from rfl, nI_add]; exact fw_ix_nI (by omega) (by omega)
          have hv : aSeV x v := by
            have h9 := bI_nz h_45
            constructor
            · first | (rw [if_pos h_14]; exact h9.1) | (rw [if_neg h_14]; exact h9.1)
            · first | (rw [if_pos h_23]; exact h9.2) | (rw [if_neg h_23]; first | (rw [if_pos h_33]; exact h9.2) | (rw [if_neg h_33]; exact h9.2))
          refine V_aload_n (i := 0) rfl rfl dX8_set_55 rfl ?_
          refine V_getr (kf := 0) C8 (by decide) l_X8_7 (by assumption) rfl (by assumption) dX8_set_56 rfl ?_
          refine V_iconst (v := 5) (by decide) dX8_set_59 rfl ?_
          refine V_iload_n (i := 1) rfl rfl dX8_set_60 rfl ?_
          refine V_iadd dX8_set_61 rfl ?_
          refine V_iald9 (by assumption) hix dX8_set_62 rfl ?_
          refine V_istore_n (i := 3) rfl (by decide) rfl dX8_set_63 rfl ?_
          refine V_aload_n (i := 0) rfl rfl dX8_set_64 rfl ?_
          refine V_getr (kf := 0) C8 (by decide) l_X8_7 (by assumption) rfl (by assumption) dX8_set_65 rfl ?_
          refine V_iconst (v := 5) (by decide) dX8_set_68 rfl ?_
          refine V_iload_n (i := 1) rfl rfl dX8_set_69 rfl ?_
          refine V_iadd dX8_set_70 rfl ?_
          refine V_iload_n (i := 2) rfl rfl dX8_set_71 rfl ?_
          refine V_iast9 (by assumption) hix dX8_set_72 rfl ?_
          refine V_iload_n (i := 3) rfl rfl dX8_set_73 rfl ?_
          exact V_ireturn rfl rfl dX8_set_74 rfl rfl rfl (⟨_, rfl, by unfold aSetR; rw [if_neg (fun h => h (bI_nz h_6)), if_neg (fun h => h hv)], rfl, Or.inl ⟨⟨bI_nz h_6, hv⟩, _, hr52, rfl⟩⟩)
        · refine V_bipush (v := (-2)) (by decide) dX8_set_48 rfl ?_
          exact V_ireturn rfl rfl dX8_set_50 rfl rfl rfl (by
                have hv : ¬ aSeV x v := fun h => bI_z h_45 (by
                  obtain ⟨h1, h2⟩ := h
                  constructor
                  · first | (rw [if_pos h_14] at h1; exact h1) | (rw [if_neg h_14] at h1; exact h1)
                  · first | (rw [if_pos h_23] at h2; exact h2) | (rw [if_neg h_23] at h2; first | (rw [if_pos h_33] at h2; exact h2) | (rw [if_neg h_33] at h2; exact h2)))
                exact ⟨_, rfl, by unfold aSetR; rw [if_neg (fun h => h (bI_nz h_6)), if_pos hv], rfl, Or.inr ⟨fun h => hv h.2, rfl⟩⟩)
  · refine V_iconst (v := (-1)) (by decide) dX8_set_9 rfl ?_
    exact V_ireturn rfl rfl dX8_set_10 rfl rfl rfl (⟨_, rfl, by unfold aSetR; rw [if_pos (bI_z h_6)], rfl, Or.inr ⟨fun h => bI_z h_6 h.1, rfl⟩⟩)
end
